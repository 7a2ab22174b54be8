abbrev kl_P : Option Value → kw_S → Prop := fun v _ => v = some (.int 1)
theorem kl_hE {L : Nat} {xs : Nat → Int32} : ∀ q ∈ kw_E0, q ∈ ((1002, L, xs) :: kw_E0) := fun _ h => List.mem_cons_of_mem _ h
theorem kl_and63 (x z : Int32) (h : z = x &&& 63) : 0 ≤ z.toInt ∧ z.toInt ≤ 63 := by
  have h1 := vp_in_iff.mp (pk_andIn x (m := 63) 6 rfl (by decide))
  subst h
  have e : ((2 ^ 6 : Nat) : Int) = 64 := rfl
  omega
set_option maxRecDepth 100000 in
set_option maxHeartbeats 4000000 in
theorem kl_case0 (l : Launch) (L : Nat) (xs : Nat → Int32) (hL : L ≤ 384) (x3 : Int32) (h0 : 0 ≤ x3.toInt) (h1 : x3.toInt + 6 ≤ L) (σ : kw_S) (T : Int) (hX : kw_I bX σ) (hM : kw_I (bM T) (kw_sh 61 σ)) (hR : kr_R σ (kw_sh 61 σ)) (hT0 : 0 ≤ T) (hT1 : T ≤ 2000) (hnext : ∀ (S : kw_S) (T' : Int), kw_I bX S → kw_I (bM T') (kw_sh 61 S) → kr_R S (kw_sh 61 S) → 0 ≤ T' → T' ≤ T + 20 → kw_AW l 30 ((1002, L, xs) :: kw_E0) KJ mL_law kl_P 1359 [(3, .int x3), (2, .ref 61), (1, .ref 0), (0, .ref 1002)] [] S) : kw_AW l 30 ((1002, L, xs) :: kw_E0) KJ mL_law kl_P 220 [(3, .int x3), (2, .ref 61), (1, .ref 0), (0, .ref 1002)] [] σ := by
  have u1 : (x3 + 1).toInt = x3.toInt + 1 := by rw [kw_addI, show (1 : Int32).toInt = 1 from rfl]; omega
  have u2 : (x3 + 2).toInt = x3.toInt + 2 := by rw [kw_addI, show (2 : Int32).toInt = 2 from rfl]; omega
  have u3 : (x3 + 3).toInt = x3.toInt + 3 := by rw [kw_addI, show (3 : Int32).toInt = 3 from rfl]; omega
  have u4 : (x3 + 4).toInt = x3.toInt + 4 := by rw [kw_addI, show (4 : Int32).toInt = 4 from rfl]; omega
  have u5 : (x3 + 5).toInt = x3.toInt + 5 := by rw [kw_addI, show (5 : Int32).toInt = 5 from rfl]; omega
  refine kw_aload_n (pc := 220) (i := 22) (k := 2) (n := 1) (kl_a0 22 rfl) rfl rfl ?_
  refine kw_aload_n (pc := 221) (i := 23) (k := 3) (n := 0) (kl_a0 23 rfl) rfl rfl ?_
  refine kw_iload_n (pc := 222) (i := 24) (k := 0) (n := 3) (kl_a0 24 rfl) rfl rfl ?_
  refine kw_iconst (pc := 223) (i := 25) (v := 1) (kl_a0 25 rfl) rfl ?_
  refine kw_iadd (pc := 224) (i := 26) (kl_a0 26 rfl) (fun z1 e_z1 t_z1 => ?_)
  subst e_z1
  clear t_z1
  refine kw_tld (pc := 225) (i := 27) (k := 0) (n := L) (kl_a0 27 rfl) rfl (by omega) (by omega) (fun z2 e_z2 => ?_)
  subst e_z2
  refine kw_aload_n (pc := 226) (i := 28) (k := 3) (n := 0) (kl_a0 28 rfl) rfl rfl ?_
  refine kw_iload_n (pc := 227) (i := 29) (k := 0) (n := 3) (kl_a0 29 rfl) rfl rfl ?_
  refine kw_iconst (pc := 228) (i := 30) (v := 2) (kl_a0 30 rfl) rfl ?_
  refine kw_iadd (pc := 229) (i := 31) (kl_a0 31 rfl) (fun z3 e_z3 t_z3 => ?_)
  subst e_z3
  clear t_z3
  refine kw_tld (pc := 230) (i := 32) (k := 0) (n := L) (kl_a0 32 rfl) rfl (by omega) (by omega) (fun z4 e_z4 => ?_)
  subst e_z4
  refine kw_callX (pc := 231) (i := 33) (Y := mX7_row) (xs := [xs (x3 + 1).toNatClampNeg, xs (x3 + 2).toNatClampNeg]) (st := []) kl_hE (kl_a0 33 rfl) lvL_13 arX7_row (c_X7_row_0 l σ hX (xs (x3 + 1).toNatClampNeg) (xs (x3 + 2).toNatClampNeg) ) (by decide) (Nat.le_of_ble_eq_true rfl) rfl (fun v sX pX => ?_)
  obtain ⟨⟨IX, FX⟩, rX, rfl, f5, eX⟩ := pX
  show kw_AW l 30 ((1002, L, xs) :: kw_E0) KJ mL_law kl_P 234 [(3, .int x3), (2, .ref 61), (1, .ref 0), (0, .ref 1002)] [.int rX] (kw_mixX σ sX)
  refine kw_pop (pc := 234) (i := 34) (kl_a0 34 rfl) rfl ?_
  refine kw_aload_n (pc := 235) (i := 35) (k := 1) (n := 2) (kl_a0 35 rfl) rfl rfl ?_
  refine kw_aload_n (pc := 236) (i := 36) (k := 3) (n := 0) (kl_a0 36 rfl) rfl rfl ?_
  refine kw_iload_n (pc := 237) (i := 37) (k := 0) (n := 3) (kl_a0 37 rfl) rfl rfl ?_
  refine kw_iconst (pc := 238) (i := 38) (v := 1) (kl_a0 38 rfl) rfl ?_
  refine kw_iadd (pc := 239) (i := 39) (kl_a0 39 rfl) (fun z6 e_z6 t_z6 => ?_)
  subst e_z6
  clear t_z6
  refine kw_tld (pc := 240) (i := 40) (k := 0) (n := L) (kl_a0 40 rfl) rfl (by omega) (by omega) (fun z7 e_z7 => ?_)
  subst e_z7
  refine kw_aload_n (pc := 241) (i := 41) (k := 3) (n := 0) (kl_a0 41 rfl) rfl rfl ?_
  refine kw_iload_n (pc := 242) (i := 42) (k := 0) (n := 3) (kl_a0 42 rfl) rfl rfl ?_
  refine kw_iconst (pc := 243) (i := 43) (v := 2) (kl_a0 43 rfl) rfl ?_
  refine kw_iadd (pc := 244) (i := 44) (kl_a0 44 rfl) (fun z8 e_z8 t_z8 => ?_)
  subst e_z8
  clear t_z8
  refine kw_tld (pc := 245) (i := 45) (k := 0) (n := L) (kl_a0 45 rfl) rfl (by omega) (by omega) (fun z9 e_z9 => ?_)
  subst e_z9
  refine kw_callM (pc := 246) (i := 46) (Y := mX8_row) (xs := [xs (x3 + 1).toNatClampNeg, xs (x3 + 2).toNatClampNeg]) (st := []) kl_hE (kl_a0 46 rfl) lvL_17 arX8_row (c_X8_row_0 l T (by omega) (by omega) (kw_sh 61 (kw_mixX σ sX)) (by rw [kw_sh_mixX]; exact hM) (xs (x3 + 1).toNatClampNeg) (xs (x3 + 2).toNatClampNeg) ) (by decide) (Nat.le_of_ble_eq_true rfl) rfl (fun _ _ q => by obtain ⟨-, r, rfl, -⟩ := q; exact fun _ _ => rfl) (fun v sM pM => ?_)
  obtain ⟨⟨IM, FM⟩, rM, rfl, f10, eM⟩ := pM
  rw [kw_sh_mixX] at FM eM
  first | rw [kw_sh_mixX] at f10 | skip
  have AX : kw_I bX (kw_mixM (kw_mixX σ sX) sM) := kw_IX_mixM (kw_IX_mixX IX)
  have AM : kw_I (bM T) (kw_sh 61 (kw_mixM (kw_mixX σ sX) sM)) := by rw [kw_sh_mixM]; exact IM
  have Q := (show kr_R sX sM ∧ rX = rM from ⟨⟨hR.1.fr FX FM (by decide) (by decide), hR.2.1.fr FX FM (by decide) (by decide), hR.2.2.1.fr hR.2.1 FX FM (by decide) (by decide), (kr_W_row hX hR.2.2.2 (xs (x3 + 1).toNatClampNeg) (xs (x3 + 2).toNatClampNeg) eX eM).1⟩, (kr_W_row hX hR.2.2.2 (xs (x3 + 1).toNatClampNeg) (xs (x3 + 2).toNatClampNeg) eX eM).2⟩)
  have AR : kr_R (kw_mixM (kw_mixX σ sX) sM) (kw_sh 61 (kw_mixM (kw_mixX σ sX) sM)) := by rw [kw_sh_mixM]; exact ⟨(Q.1).1.mix, (Q.1).2.1.mix, kr_D.mix (Q.1).2.1 (Q.1).2.2.1, (Q.1).2.2.2.mix⟩
  generalize (kw_mixM (kw_mixX σ sX) sM) = J at AX AM AR ⊢
  show kw_AW l 30 ((1002, L, xs) :: kw_E0) KJ mL_law kl_P 249 [(3, .int x3), (2, .ref 61), (1, .ref 0), (0, .ref 1002)] [.int rM] J
  refine kw_pop (pc := 249) (i := 47) (kl_a0 47 rfl) rfl ?_
  refine kw_goto (pc := 250) (i := 48) (tgt := 1359) (kl_a0 48 rfl) rfl ?_
  exact hnext J T AX AM AR (by omega) (by omega)
set_option maxRecDepth 100000 in
set_option maxHeartbeats 4000000 in
theorem kl_case1 (l : Launch) (L : Nat) (xs : Nat → Int32) (hL : L ≤ 384) (x3 : Int32) (h0 : 0 ≤ x3.toInt) (h1 : x3.toInt + 6 ≤ L) (σ : kw_S) (T : Int) (hX : kw_I bX σ) (hM : kw_I (bM T) (kw_sh 61 σ)) (hR : kr_R σ (kw_sh 61 σ)) (hT0 : 0 ≤ T) (hT1 : T ≤ 2000) (hnext : ∀ (S : kw_S) (T' : Int), kw_I bX S → kw_I (bM T') (kw_sh 61 S) → kr_R S (kw_sh 61 S) → 0 ≤ T' → T' ≤ T + 20 → kw_AW l 30 ((1002, L, xs) :: kw_E0) KJ mL_law kl_P 1359 [(3, .int x3), (2, .ref 61), (1, .ref 0), (0, .ref 1002)] [] S) : kw_AW l 30 ((1002, L, xs) :: kw_E0) KJ mL_law kl_P 253 [(3, .int x3), (2, .ref 61), (1, .ref 0), (0, .ref 1002)] [] σ := by
  have u1 : (x3 + 1).toInt = x3.toInt + 1 := by rw [kw_addI, show (1 : Int32).toInt = 1 from rfl]; omega
  have u2 : (x3 + 2).toInt = x3.toInt + 2 := by rw [kw_addI, show (2 : Int32).toInt = 2 from rfl]; omega
  have u3 : (x3 + 3).toInt = x3.toInt + 3 := by rw [kw_addI, show (3 : Int32).toInt = 3 from rfl]; omega
  have u4 : (x3 + 4).toInt = x3.toInt + 4 := by rw [kw_addI, show (4 : Int32).toInt = 4 from rfl]; omega
  have u5 : (x3 + 5).toInt = x3.toInt + 5 := by rw [kw_addI, show (5 : Int32).toInt = 5 from rfl]; omega
  refine kw_aload_n (pc := 253) (i := 49) (k := 2) (n := 1) (kl_a0 49 rfl) rfl rfl ?_
  refine kw_aload_n (pc := 254) (i := 50) (k := 3) (n := 0) (kl_a0 50 rfl) rfl rfl ?_
  refine kw_iload_n (pc := 255) (i := 51) (k := 0) (n := 3) (kl_a0 51 rfl) rfl rfl ?_
  refine kw_iconst (pc := 256) (i := 52) (v := 1) (kl_a0 52 rfl) rfl ?_
  refine kw_iadd (pc := 257) (i := 53) (kl_a0 53 rfl) (fun z1 e_z1 t_z1 => ?_)
  subst e_z1
  clear t_z1
  refine kw_tld (pc := 258) (i := 54) (k := 0) (n := L) (kl_a0 54 rfl) rfl (by omega) (by omega) (fun z2 e_z2 => ?_)
  subst e_z2
  refine kw_aload_n (pc := 259) (i := 55) (k := 3) (n := 0) (kl_a0 55 rfl) rfl rfl ?_
  refine kw_iload_n (pc := 260) (i := 56) (k := 0) (n := 3) (kl_a0 56 rfl) rfl rfl ?_
  refine kw_iconst (pc := 261) (i := 57) (v := 2) (kl_a0 57 rfl) rfl ?_
  refine kw_iadd (pc := 262) (i := 58) (kl_a0 58 rfl) (fun z3 e_z3 t_z3 => ?_)
  subst e_z3
  clear t_z3
  refine kw_tld (pc := 263) (i := 59) (k := 0) (n := L) (kl_a0 59 rfl) rfl (by omega) (by omega) (fun z4 e_z4 => ?_)
  subst e_z4
  refine kw_aload_n (pc := 264) (i := 60) (k := 3) (n := 0) (kl_a1 0 rfl) rfl rfl ?_
  refine kw_iload_n (pc := 265) (i := 61) (k := 0) (n := 3) (kl_a1 1 rfl) rfl rfl ?_
  refine kw_iconst (pc := 266) (i := 62) (v := 3) (kl_a1 2 rfl) rfl ?_
  refine kw_iadd (pc := 267) (i := 63) (kl_a1 3 rfl) (fun z5 e_z5 t_z5 => ?_)
  subst e_z5
  clear t_z5
  refine kw_tld (pc := 268) (i := 64) (k := 0) (n := L) (kl_a1 4 rfl) rfl (by omega) (by omega) (fun z6 e_z6 => ?_)
  subst e_z6
  refine kw_callX (pc := 269) (i := 65) (Y := mX7_lay) (xs := [xs (x3 + 1).toNatClampNeg, xs (x3 + 2).toNatClampNeg, xs (x3 + 3).toNatClampNeg]) (st := []) kl_hE (kl_a1 5 rfl) lvL_18 arX7_lay (c_X7_lay_0 l σ hX (xs (x3 + 1).toNatClampNeg) (xs (x3 + 2).toNatClampNeg) (xs (x3 + 3).toNatClampNeg) ) (by decide) (Nat.le_of_ble_eq_true rfl) rfl (fun v sX pX => ?_)
  obtain ⟨⟨IX, FX⟩, rX, rfl, eX⟩ := pX
  show kw_AW l 30 ((1002, L, xs) :: kw_E0) KJ mL_law kl_P 272 [(3, .int x3), (2, .ref 61), (1, .ref 0), (0, .ref 1002)] [.int rX] (kw_mixX σ sX)
  refine kw_pop (pc := 272) (i := 66) (kl_a1 6 rfl) rfl ?_
  refine kw_aload_n (pc := 273) (i := 67) (k := 1) (n := 2) (kl_a1 7 rfl) rfl rfl ?_
  refine kw_aload_n (pc := 274) (i := 68) (k := 3) (n := 0) (kl_a1 8 rfl) rfl rfl ?_
  refine kw_iload_n (pc := 275) (i := 69) (k := 0) (n := 3) (kl_a1 9 rfl) rfl rfl ?_
  refine kw_iconst (pc := 276) (i := 70) (v := 1) (kl_a1 10 rfl) rfl ?_
  refine kw_iadd (pc := 277) (i := 71) (kl_a1 11 rfl) (fun z7 e_z7 t_z7 => ?_)
  subst e_z7
  clear t_z7
  refine kw_tld (pc := 278) (i := 72) (k := 0) (n := L) (kl_a1 12 rfl) rfl (by omega) (by omega) (fun z8 e_z8 => ?_)
  subst e_z8
  refine kw_aload_n (pc := 279) (i := 73) (k := 3) (n := 0) (kl_a1 13 rfl) rfl rfl ?_
  refine kw_iload_n (pc := 280) (i := 74) (k := 0) (n := 3) (kl_a1 14 rfl) rfl rfl ?_
  refine kw_iconst (pc := 281) (i := 75) (v := 2) (kl_a1 15 rfl) rfl ?_
  refine kw_iadd (pc := 282) (i := 76) (kl_a1 16 rfl) (fun z9 e_z9 t_z9 => ?_)
  subst e_z9
  clear t_z9
  refine kw_tld (pc := 283) (i := 77) (k := 0) (n := L) (kl_a1 17 rfl) rfl (by omega) (by omega) (fun z10 e_z10 => ?_)
  subst e_z10
  refine kw_aload_n (pc := 284) (i := 78) (k := 3) (n := 0) (kl_a1 18 rfl) rfl rfl ?_
  refine kw_iload_n (pc := 285) (i := 79) (k := 0) (n := 3) (kl_a1 19 rfl) rfl rfl ?_
  refine kw_iconst (pc := 286) (i := 80) (v := 3) (kl_a1 20 rfl) rfl ?_
  refine kw_iadd (pc := 287) (i := 81) (kl_a1 21 rfl) (fun z11 e_z11 t_z11 => ?_)
  subst e_z11
  clear t_z11
  refine kw_tld (pc := 288) (i := 82) (k := 0) (n := L) (kl_a1 22 rfl) rfl (by omega) (by omega) (fun z12 e_z12 => ?_)
  subst e_z12
  refine kw_callM (pc := 289) (i := 83) (Y := mX8_lay) (xs := [xs (x3 + 1).toNatClampNeg, xs (x3 + 2).toNatClampNeg, xs (x3 + 3).toNatClampNeg]) (st := []) kl_hE (kl_a1 23 rfl) lvL_22 arX8_lay (c_X8_lay_0 l T (by omega) (by omega) (kw_sh 61 (kw_mixX σ sX)) (by rw [kw_sh_mixX]; exact hM) (xs (x3 + 1).toNatClampNeg) (xs (x3 + 2).toNatClampNeg) (xs (x3 + 3).toNatClampNeg) ) (by decide) (Nat.le_of_ble_eq_true rfl) rfl (fun _ _ q => by obtain ⟨-, r, rfl, -⟩ := q; exact fun _ _ => rfl) (fun v sM pM => ?_)
  obtain ⟨⟨IM, FM⟩, rM, rfl, eM⟩ := pM
  rw [kw_sh_mixX] at FM eM
  have AX : kw_I bX (kw_mixM (kw_mixX σ sX) sM) := kw_IX_mixM (kw_IX_mixX IX)
  have AM : kw_I (bM T) (kw_sh 61 (kw_mixM (kw_mixX σ sX) sM)) := by rw [kw_sh_mixM]; exact IM
  have Q := (show kr_R sX sM ∧ rX = rM from ⟨⟨hR.1.fr FX FM (by decide) (by decide), hR.2.1.fr FX FM (by decide) (by decide), hR.2.2.1.fr hR.2.1 FX FM (by decide) (by decide), (kr_W_lay hX hR.2.2.2 (xs (x3 + 1).toNatClampNeg) (xs (x3 + 2).toNatClampNeg) (xs (x3 + 3).toNatClampNeg) eX eM).1⟩, (kr_W_lay hX hR.2.2.2 (xs (x3 + 1).toNatClampNeg) (xs (x3 + 2).toNatClampNeg) (xs (x3 + 3).toNatClampNeg) eX eM).2⟩)
  have AR : kr_R (kw_mixM (kw_mixX σ sX) sM) (kw_sh 61 (kw_mixM (kw_mixX σ sX) sM)) := by rw [kw_sh_mixM]; exact ⟨(Q.1).1.mix, (Q.1).2.1.mix, kr_D.mix (Q.1).2.1 (Q.1).2.2.1, (Q.1).2.2.2.mix⟩
  generalize (kw_mixM (kw_mixX σ sX) sM) = J at AX AM AR ⊢
  show kw_AW l 30 ((1002, L, xs) :: kw_E0) KJ mL_law kl_P 292 [(3, .int x3), (2, .ref 61), (1, .ref 0), (0, .ref 1002)] [.int rM] J
  refine kw_pop (pc := 292) (i := 84) (kl_a1 24 rfl) rfl ?_
  refine kw_goto (pc := 293) (i := 85) (tgt := 1359) (kl_a1 25 rfl) rfl ?_
  exact hnext J T AX AM AR (by omega) (by omega)
set_option maxRecDepth 100000 in
set_option maxHeartbeats 4000000 in
theorem kl_case2 (l : Launch) (L : Nat) (xs : Nat → Int32) (hL : L ≤ 384) (x3 : Int32) (h0 : 0 ≤ x3.toInt) (h1 : x3.toInt + 6 ≤ L) (σ : kw_S) (T : Int) (hX : kw_I bX σ) (hM : kw_I (bM T) (kw_sh 61 σ)) (hR : kr_R σ (kw_sh 61 σ)) (hT0 : 0 ≤ T) (hT1 : T ≤ 2000) (hnext : ∀ (S : kw_S) (T' : Int), kw_I bX S → kw_I (bM T') (kw_sh 61 S) → kr_R S (kw_sh 61 S) → 0 ≤ T' → T' ≤ T + 20 → kw_AW l 30 ((1002, L, xs) :: kw_E0) KJ mL_law kl_P 1359 [(3, .int x3), (2, .ref 61), (1, .ref 0), (0, .ref 1002)] [] S) : kw_AW l 30 ((1002, L, xs) :: kw_E0) KJ mL_law kl_P 296 [(3, .int x3), (2, .ref 61), (1, .ref 0), (0, .ref 1002)] [] σ := by
  have u1 : (x3 + 1).toInt = x3.toInt + 1 := by rw [kw_addI, show (1 : Int32).toInt = 1 from rfl]; omega
  have u2 : (x3 + 2).toInt = x3.toInt + 2 := by rw [kw_addI, show (2 : Int32).toInt = 2 from rfl]; omega
  have u3 : (x3 + 3).toInt = x3.toInt + 3 := by rw [kw_addI, show (3 : Int32).toInt = 3 from rfl]; omega
  have u4 : (x3 + 4).toInt = x3.toInt + 4 := by rw [kw_addI, show (4 : Int32).toInt = 4 from rfl]; omega
  have u5 : (x3 + 5).toInt = x3.toInt + 5 := by rw [kw_addI, show (5 : Int32).toInt = 5 from rfl]; omega
  refine kw_aload_n (pc := 296) (i := 86) (k := 2) (n := 1) (kl_a1 26 rfl) rfl rfl ?_
  refine kw_aload_n (pc := 297) (i := 87) (k := 3) (n := 0) (kl_a1 27 rfl) rfl rfl ?_
  refine kw_iload_n (pc := 298) (i := 88) (k := 0) (n := 3) (kl_a1 28 rfl) rfl rfl ?_
  refine kw_iconst (pc := 299) (i := 89) (v := 1) (kl_a1 29 rfl) rfl ?_
  refine kw_iadd (pc := 300) (i := 90) (kl_a1 30 rfl) (fun z1 e_z1 t_z1 => ?_)
  subst e_z1
  clear t_z1
  refine kw_tld (pc := 301) (i := 91) (k := 0) (n := L) (kl_a1 31 rfl) rfl (by omega) (by omega) (fun z2 e_z2 => ?_)
  subst e_z2
  refine kw_aload_n (pc := 302) (i := 92) (k := 3) (n := 0) (kl_a1 32 rfl) rfl rfl ?_
  refine kw_iload_n (pc := 303) (i := 93) (k := 0) (n := 3) (kl_a1 33 rfl) rfl rfl ?_
  refine kw_iconst (pc := 304) (i := 94) (v := 2) (kl_a1 34 rfl) rfl ?_
  refine kw_iadd (pc := 305) (i := 95) (kl_a1 35 rfl) (fun z3 e_z3 t_z3 => ?_)
  subst e_z3
  clear t_z3
  refine kw_tld (pc := 306) (i := 96) (k := 0) (n := L) (kl_a1 36 rfl) rfl (by omega) (by omega) (fun z4 e_z4 => ?_)
  subst e_z4
  refine kw_callX (pc := 307) (i := 97) (Y := mX7_at) (xs := [xs (x3 + 1).toNatClampNeg, xs (x3 + 2).toNatClampNeg]) (st := []) kl_hE (kl_a1 37 rfl) lvL_23 arX7_at (c_X7_at_0 l σ hX (xs (x3 + 1).toNatClampNeg) (xs (x3 + 2).toNatClampNeg) ) (by decide) (Nat.le_of_ble_eq_true rfl) rfl (fun v sX pX => ?_)
  obtain ⟨⟨IX, FX⟩, rX, rfl, eX⟩ := pX
  show kw_AW l 30 ((1002, L, xs) :: kw_E0) KJ mL_law kl_P 310 [(3, .int x3), (2, .ref 61), (1, .ref 0), (0, .ref 1002)] [.int rX] (kw_mixX σ sX)
  refine kw_pop (pc := 310) (i := 98) (kl_a1 38 rfl) rfl ?_
  refine kw_aload_n (pc := 311) (i := 99) (k := 1) (n := 2) (kl_a1 39 rfl) rfl rfl ?_
  refine kw_aload_n (pc := 312) (i := 100) (k := 3) (n := 0) (kl_a1 40 rfl) rfl rfl ?_
  refine kw_iload_n (pc := 313) (i := 101) (k := 0) (n := 3) (kl_a1 41 rfl) rfl rfl ?_
  refine kw_iconst (pc := 314) (i := 102) (v := 1) (kl_a1 42 rfl) rfl ?_
  refine kw_iadd (pc := 315) (i := 103) (kl_a1 43 rfl) (fun z5 e_z5 t_z5 => ?_)
  subst e_z5
  clear t_z5
  refine kw_tld (pc := 316) (i := 104) (k := 0) (n := L) (kl_a1 44 rfl) rfl (by omega) (by omega) (fun z6 e_z6 => ?_)
  subst e_z6
  refine kw_aload_n (pc := 317) (i := 105) (k := 3) (n := 0) (kl_a1 45 rfl) rfl rfl ?_
  refine kw_iload_n (pc := 318) (i := 106) (k := 0) (n := 3) (kl_a1 46 rfl) rfl rfl ?_
  refine kw_iconst (pc := 319) (i := 107) (v := 2) (kl_a1 47 rfl) rfl ?_
  refine kw_iadd (pc := 320) (i := 108) (kl_a1 48 rfl) (fun z7 e_z7 t_z7 => ?_)
  subst e_z7
  clear t_z7
  refine kw_tld (pc := 321) (i := 109) (k := 0) (n := L) (kl_a1 49 rfl) rfl (by omega) (by omega) (fun z8 e_z8 => ?_)
  subst e_z8
  refine kw_callM (pc := 322) (i := 110) (Y := mX8_at) (xs := [xs (x3 + 1).toNatClampNeg, xs (x3 + 2).toNatClampNeg]) (st := []) kl_hE (kl_a1 50 rfl) lvL_26 arX8_at (c_X8_at_0 l T (by omega) (by omega) (kw_sh 61 (kw_mixX σ sX)) (by rw [kw_sh_mixX]; exact hM) (xs (x3 + 1).toNatClampNeg) (xs (x3 + 2).toNatClampNeg) ) (by decide) (Nat.le_of_ble_eq_true rfl) rfl (fun _ _ q => by obtain ⟨-, r, rfl, -⟩ := q; exact fun _ _ => rfl) (fun v sM pM => ?_)
  obtain ⟨⟨IM, FM⟩, rM, rfl, f9, eM⟩ := pM
  rw [kw_sh_mixX] at FM eM
  first | rw [kw_sh_mixX] at f9 | skip
  have AX : kw_I bX (kw_mixM (kw_mixX σ sX) sM) := kw_IX_mixM (kw_IX_mixX IX)
  have AM : kw_I (bM T) (kw_sh 61 (kw_mixM (kw_mixX σ sX) sM)) := by rw [kw_sh_mixM]; exact IM
  have Q := (show kr_R sX sM ∧ rX = rM from ⟨kr_R.fr hR FX FM (by decide) (by decide), kr_W_at hX hR.2.2.2 (xs (x3 + 1).toNatClampNeg) (xs (x3 + 2).toNatClampNeg) eX eM⟩)
  have AR : kr_R (kw_mixM (kw_mixX σ sX) sM) (kw_sh 61 (kw_mixM (kw_mixX σ sX) sM)) := by rw [kw_sh_mixM]; exact ⟨(Q.1).1.mix, (Q.1).2.1.mix, kr_D.mix (Q.1).2.1 (Q.1).2.2.1, (Q.1).2.2.2.mix⟩
  generalize (kw_mixM (kw_mixX σ sX) sM) = J at AX AM AR ⊢
  show kw_AW l 30 ((1002, L, xs) :: kw_E0) KJ mL_law kl_P 325 [(3, .int x3), (2, .ref 61), (1, .ref 0), (0, .ref 1002)] [.int rM] J
  refine kw_pop (pc := 325) (i := 111) (kl_a1 51 rfl) rfl ?_
  refine kw_goto (pc := 326) (i := 112) (tgt := 1359) (kl_a1 52 rfl) rfl ?_
  exact hnext J T AX AM AR (by omega) (by omega)
set_option maxRecDepth 100000 in
set_option maxHeartbeats 4000000 in
theorem kl_case3 (l : Launch) (L : Nat) (xs : Nat → Int32) (hL : L ≤ 384) (x3 : Int32) (h0 : 0 ≤ x3.toInt) (h1 : x3.toInt + 6 ≤ L) (σ : kw_S) (T : Int) (hX : kw_I bX σ) (hM : kw_I (bM T) (kw_sh 61 σ)) (hR : kr_R σ (kw_sh 61 σ)) (hT0 : 0 ≤ T) (hT1 : T ≤ 2000) (hnext : ∀ (S : kw_S) (T' : Int), kw_I bX S → kw_I (bM T') (kw_sh 61 S) → kr_R S (kw_sh 61 S) → 0 ≤ T' → T' ≤ T + 20 → kw_AW l 30 ((1002, L, xs) :: kw_E0) KJ mL_law kl_P 1359 [(3, .int x3), (2, .ref 61), (1, .ref 0), (0, .ref 1002)] [] S) : kw_AW l 30 ((1002, L, xs) :: kw_E0) KJ mL_law kl_P 329 [(3, .int x3), (2, .ref 61), (1, .ref 0), (0, .ref 1002)] [] σ := by
  have u1 : (x3 + 1).toInt = x3.toInt + 1 := by rw [kw_addI, show (1 : Int32).toInt = 1 from rfl]; omega
  have u2 : (x3 + 2).toInt = x3.toInt + 2 := by rw [kw_addI, show (2 : Int32).toInt = 2 from rfl]; omega
  have u3 : (x3 + 3).toInt = x3.toInt + 3 := by rw [kw_addI, show (3 : Int32).toInt = 3 from rfl]; omega
  have u4 : (x3 + 4).toInt = x3.toInt + 4 := by rw [kw_addI, show (4 : Int32).toInt = 4 from rfl]; omega
  have u5 : (x3 + 5).toInt = x3.toInt + 5 := by rw [kw_addI, show (5 : Int32).toInt = 5 from rfl]; omega
  refine kw_aload_n (pc := 329) (i := 113) (k := 2) (n := 1) (kl_a1 53 rfl) rfl rfl ?_
  refine kw_aload_n (pc := 330) (i := 114) (k := 3) (n := 0) (kl_a1 54 rfl) rfl rfl ?_
  refine kw_iload_n (pc := 331) (i := 115) (k := 0) (n := 3) (kl_a1 55 rfl) rfl rfl ?_
  refine kw_iconst (pc := 332) (i := 116) (v := 1) (kl_a1 56 rfl) rfl ?_
  refine kw_iadd (pc := 333) (i := 117) (kl_a1 57 rfl) (fun z1 e_z1 t_z1 => ?_)
  subst e_z1
  clear t_z1
  refine kw_tld (pc := 334) (i := 118) (k := 0) (n := L) (kl_a1 58 rfl) rfl (by omega) (by omega) (fun z2 e_z2 => ?_)
  subst e_z2
  refine kw_callX (pc := 335) (i := 119) (Y := mX7_tear) (xs := [xs (x3 + 1).toNatClampNeg]) (st := []) kl_hE (kl_a1 59 rfl) lvL_27 arX7_tear (c_X7_tear_0 l σ hX (xs (x3 + 1).toNatClampNeg) ) (by decide) (Nat.le_of_ble_eq_true rfl) rfl (fun v sX pX => ?_)
  obtain ⟨⟨IX, FX⟩, rX, rfl, eX⟩ := pX
  show kw_AW l 30 ((1002, L, xs) :: kw_E0) KJ mL_law kl_P 338 [(3, .int x3), (2, .ref 61), (1, .ref 0), (0, .ref 1002)] [.int rX] (kw_mixX σ sX)
  refine kw_pop (pc := 338) (i := 120) (kl_a2 0 rfl) rfl ?_
  refine kw_aload_n (pc := 339) (i := 121) (k := 1) (n := 2) (kl_a2 1 rfl) rfl rfl ?_
  refine kw_aload_n (pc := 340) (i := 122) (k := 3) (n := 0) (kl_a2 2 rfl) rfl rfl ?_
  refine kw_iload_n (pc := 341) (i := 123) (k := 0) (n := 3) (kl_a2 3 rfl) rfl rfl ?_
  refine kw_iconst (pc := 342) (i := 124) (v := 1) (kl_a2 4 rfl) rfl ?_
  refine kw_iadd (pc := 343) (i := 125) (kl_a2 5 rfl) (fun z3 e_z3 t_z3 => ?_)
  subst e_z3
  clear t_z3
  refine kw_tld (pc := 344) (i := 126) (k := 0) (n := L) (kl_a2 6 rfl) rfl (by omega) (by omega) (fun z4 e_z4 => ?_)
  subst e_z4
  refine kw_callM (pc := 345) (i := 127) (Y := mX8_tear) (xs := [xs (x3 + 1).toNatClampNeg]) (st := []) kl_hE (kl_a2 7 rfl) lvL_31 arX8_tear (c_X8_tear_0 l T (by omega) (by omega) (kw_sh 61 (kw_mixX σ sX)) (by rw [kw_sh_mixX]; exact hM) (xs (x3 + 1).toNatClampNeg) ) (by decide) (Nat.le_of_ble_eq_true rfl) rfl (fun _ _ q => by obtain ⟨-, r, rfl, -⟩ := q; exact fun _ _ => rfl) (fun v sM pM => ?_)
  obtain ⟨⟨IM, FM⟩, rM, rfl, eM⟩ := pM
  rw [kw_sh_mixX] at FM eM
  have AX : kw_I bX (kw_mixM (kw_mixX σ sX) sM) := kw_IX_mixM (kw_IX_mixX IX)
  have AM : kw_I (bM T) (kw_sh 61 (kw_mixM (kw_mixX σ sX) sM)) := by rw [kw_sh_mixM]; exact IM
  have Q := (show kr_R sX sM ∧ rX = rM from ⟨⟨hR.1.fr FX FM (by decide) (by decide), hR.2.1.fr FX FM (by decide) (by decide), hR.2.2.1.fr hR.2.1 FX FM (by decide) (by decide), (kr_W_tear hR.2.2.2 (xs (x3 + 1).toNatClampNeg) eX eM).1⟩, (kr_W_tear hR.2.2.2 (xs (x3 + 1).toNatClampNeg) eX eM).2⟩)
  have AR : kr_R (kw_mixM (kw_mixX σ sX) sM) (kw_sh 61 (kw_mixM (kw_mixX σ sX) sM)) := by rw [kw_sh_mixM]; exact ⟨(Q.1).1.mix, (Q.1).2.1.mix, kr_D.mix (Q.1).2.1 (Q.1).2.2.1, (Q.1).2.2.2.mix⟩
  generalize (kw_mixM (kw_mixX σ sX) sM) = J at AX AM AR ⊢
  show kw_AW l 30 ((1002, L, xs) :: kw_E0) KJ mL_law kl_P 348 [(3, .int x3), (2, .ref 61), (1, .ref 0), (0, .ref 1002)] [.int rM] J
  refine kw_pop (pc := 348) (i := 128) (kl_a2 8 rfl) rfl ?_
  refine kw_goto (pc := 349) (i := 129) (tgt := 1359) (kl_a2 9 rfl) rfl ?_
  exact hnext J T AX AM AR (by omega) (by omega)
set_option maxRecDepth 100000 in
set_option maxHeartbeats 4000000 in
theorem kl_case4 (l : Launch) (L : Nat) (xs : Nat → Int32) (hL : L ≤ 384) (x3 : Int32) (h0 : 0 ≤ x3.toInt) (h1 : x3.toInt + 6 ≤ L) (σ : kw_S) (T : Int) (hX : kw_I bX σ) (hM : kw_I (bM T) (kw_sh 61 σ)) (hR : kr_R σ (kw_sh 61 σ)) (hT0 : 0 ≤ T) (hT1 : T ≤ 2000) (hnext : ∀ (S : kw_S) (T' : Int), kw_I bX S → kw_I (bM T') (kw_sh 61 S) → kr_R S (kw_sh 61 S) → 0 ≤ T' → T' ≤ T + 20 → kw_AW l 30 ((1002, L, xs) :: kw_E0) KJ mL_law kl_P 1359 [(3, .int x3), (2, .ref 61), (1, .ref 0), (0, .ref 1002)] [] S) : kw_AW l 30 ((1002, L, xs) :: kw_E0) KJ mL_law kl_P 352 [(3, .int x3), (2, .ref 61), (1, .ref 0), (0, .ref 1002)] [] σ := by
  have u1 : (x3 + 1).toInt = x3.toInt + 1 := by rw [kw_addI, show (1 : Int32).toInt = 1 from rfl]; omega
  have u2 : (x3 + 2).toInt = x3.toInt + 2 := by rw [kw_addI, show (2 : Int32).toInt = 2 from rfl]; omega
  have u3 : (x3 + 3).toInt = x3.toInt + 3 := by rw [kw_addI, show (3 : Int32).toInt = 3 from rfl]; omega
  have u4 : (x3 + 4).toInt = x3.toInt + 4 := by rw [kw_addI, show (4 : Int32).toInt = 4 from rfl]; omega
  have u5 : (x3 + 5).toInt = x3.toInt + 5 := by rw [kw_addI, show (5 : Int32).toInt = 5 from rfl]; omega
  refine kw_aload_n (pc := 352) (i := 130) (k := 2) (n := 1) (kl_a2 10 rfl) rfl rfl ?_
  refine kw_aload_n (pc := 353) (i := 131) (k := 3) (n := 0) (kl_a2 11 rfl) rfl rfl ?_
  refine kw_iload_n (pc := 354) (i := 132) (k := 0) (n := 3) (kl_a2 12 rfl) rfl rfl ?_
  refine kw_iconst (pc := 355) (i := 133) (v := 1) (kl_a2 13 rfl) rfl ?_
  refine kw_iadd (pc := 356) (i := 134) (kl_a2 14 rfl) (fun z1 e_z1 t_z1 => ?_)
  subst e_z1
  clear t_z1
  refine kw_tld (pc := 357) (i := 135) (k := 0) (n := L) (kl_a2 15 rfl) rfl (by omega) (by omega) (fun z2 e_z2 => ?_)
  subst e_z2
  refine kw_aload_n (pc := 358) (i := 136) (k := 3) (n := 0) (kl_a2 16 rfl) rfl rfl ?_
  refine kw_iload_n (pc := 359) (i := 137) (k := 0) (n := 3) (kl_a2 17 rfl) rfl rfl ?_
  refine kw_iconst (pc := 360) (i := 138) (v := 2) (kl_a2 18 rfl) rfl ?_
  refine kw_iadd (pc := 361) (i := 139) (kl_a2 19 rfl) (fun z3 e_z3 t_z3 => ?_)
  subst e_z3
  clear t_z3
  refine kw_tld (pc := 362) (i := 140) (k := 0) (n := L) (kl_a2 20 rfl) rfl (by omega) (by omega) (fun z4 e_z4 => ?_)
  subst e_z4
  refine kw_aload_n (pc := 363) (i := 141) (k := 3) (n := 0) (kl_a2 21 rfl) rfl rfl ?_
  refine kw_iload_n (pc := 364) (i := 142) (k := 0) (n := 3) (kl_a2 22 rfl) rfl rfl ?_
  refine kw_iconst (pc := 365) (i := 143) (v := 3) (kl_a2 23 rfl) rfl ?_
  refine kw_iadd (pc := 366) (i := 144) (kl_a2 24 rfl) (fun z5 e_z5 t_z5 => ?_)
  subst e_z5
  clear t_z5
  refine kw_tld (pc := 367) (i := 145) (k := 0) (n := L) (kl_a2 25 rfl) rfl (by omega) (by omega) (fun z6 e_z6 => ?_)
  subst e_z6
  refine kw_aload_n (pc := 368) (i := 146) (k := 3) (n := 0) (kl_a2 26 rfl) rfl rfl ?_
  refine kw_iload_n (pc := 369) (i := 147) (k := 0) (n := 3) (kl_a2 27 rfl) rfl rfl ?_
  refine kw_iconst (pc := 370) (i := 148) (v := 4) (kl_a2 28 rfl) rfl ?_
  refine kw_iadd (pc := 371) (i := 149) (kl_a2 29 rfl) (fun z7 e_z7 t_z7 => ?_)
  subst e_z7
  clear t_z7
  refine kw_tld (pc := 372) (i := 150) (k := 0) (n := L) (kl_a2 30 rfl) rfl (by omega) (by omega) (fun z8 e_z8 => ?_)
  subst e_z8
  refine kw_aload_n (pc := 373) (i := 151) (k := 3) (n := 0) (kl_a2 31 rfl) rfl rfl ?_
  refine kw_iload_n (pc := 374) (i := 152) (k := 0) (n := 3) (kl_a2 32 rfl) rfl rfl ?_
  refine kw_iconst (pc := 375) (i := 153) (v := 5) (kl_a2 33 rfl) rfl ?_
  refine kw_iadd (pc := 376) (i := 154) (kl_a2 34 rfl) (fun z9 e_z9 t_z9 => ?_)
  subst e_z9
  clear t_z9
  refine kw_tld (pc := 377) (i := 155) (k := 0) (n := L) (kl_a2 35 rfl) rfl (by omega) (by omega) (fun z10 e_z10 => ?_)
  subst e_z10
  refine kw_callX (pc := 378) (i := 156) (Y := mX7_copy) (xs := [xs (x3 + 1).toNatClampNeg, xs (x3 + 2).toNatClampNeg, xs (x3 + 3).toNatClampNeg, xs (x3 + 4).toNatClampNeg, xs (x3 + 5).toNatClampNeg]) (st := []) kl_hE (kl_a2 36 rfl) lvL_32 arX7_copy (c_X7_copy_0 l σ hX (xs (x3 + 1).toNatClampNeg) (xs (x3 + 2).toNatClampNeg) (xs (x3 + 3).toNatClampNeg) (xs (x3 + 4).toNatClampNeg) (xs (x3 + 5).toNatClampNeg) ) (by decide) (Nat.le_of_ble_eq_true rfl) rfl (fun v sX pX => ?_)
  obtain ⟨⟨IX, FX⟩, rX, rfl, eX⟩ := pX
  show kw_AW l 30 ((1002, L, xs) :: kw_E0) KJ mL_law kl_P 381 [(3, .int x3), (2, .ref 61), (1, .ref 0), (0, .ref 1002)] [.int rX] (kw_mixX σ sX)
  refine kw_pop (pc := 381) (i := 157) (kl_a2 37 rfl) rfl ?_
  refine kw_aload_n (pc := 382) (i := 158) (k := 1) (n := 2) (kl_a2 38 rfl) rfl rfl ?_
  refine kw_aload_n (pc := 383) (i := 159) (k := 3) (n := 0) (kl_a2 39 rfl) rfl rfl ?_
  refine kw_iload_n (pc := 384) (i := 160) (k := 0) (n := 3) (kl_a2 40 rfl) rfl rfl ?_
  refine kw_iconst (pc := 385) (i := 161) (v := 1) (kl_a2 41 rfl) rfl ?_
  refine kw_iadd (pc := 386) (i := 162) (kl_a2 42 rfl) (fun z11 e_z11 t_z11 => ?_)
  subst e_z11
  clear t_z11
  refine kw_tld (pc := 387) (i := 163) (k := 0) (n := L) (kl_a2 43 rfl) rfl (by omega) (by omega) (fun z12 e_z12 => ?_)
  subst e_z12
  refine kw_aload_n (pc := 388) (i := 164) (k := 3) (n := 0) (kl_a2 44 rfl) rfl rfl ?_
  refine kw_iload_n (pc := 389) (i := 165) (k := 0) (n := 3) (kl_a2 45 rfl) rfl rfl ?_
  refine kw_iconst (pc := 390) (i := 166) (v := 2) (kl_a2 46 rfl) rfl ?_
  refine kw_iadd (pc := 391) (i := 167) (kl_a2 47 rfl) (fun z13 e_z13 t_z13 => ?_)
  subst e_z13
  clear t_z13
  refine kw_tld (pc := 392) (i := 168) (k := 0) (n := L) (kl_a2 48 rfl) rfl (by omega) (by omega) (fun z14 e_z14 => ?_)
  subst e_z14
  refine kw_aload_n (pc := 393) (i := 169) (k := 3) (n := 0) (kl_a2 49 rfl) rfl rfl ?_
  refine kw_iload_n (pc := 394) (i := 170) (k := 0) (n := 3) (kl_a2 50 rfl) rfl rfl ?_
  refine kw_iconst (pc := 395) (i := 171) (v := 3) (kl_a2 51 rfl) rfl ?_
  refine kw_iadd (pc := 396) (i := 172) (kl_a2 52 rfl) (fun z15 e_z15 t_z15 => ?_)
  subst e_z15
  clear t_z15
  refine kw_tld (pc := 397) (i := 173) (k := 0) (n := L) (kl_a2 53 rfl) rfl (by omega) (by omega) (fun z16 e_z16 => ?_)
  subst e_z16
  refine kw_aload_n (pc := 398) (i := 174) (k := 3) (n := 0) (kl_a2 54 rfl) rfl rfl ?_
  refine kw_iload_n (pc := 399) (i := 175) (k := 0) (n := 3) (kl_a2 55 rfl) rfl rfl ?_
  refine kw_iconst (pc := 400) (i := 176) (v := 4) (kl_a2 56 rfl) rfl ?_
  refine kw_iadd (pc := 401) (i := 177) (kl_a2 57 rfl) (fun z17 e_z17 t_z17 => ?_)
  subst e_z17
  clear t_z17
  refine kw_tld (pc := 402) (i := 178) (k := 0) (n := L) (kl_a2 58 rfl) rfl (by omega) (by omega) (fun z18 e_z18 => ?_)
  subst e_z18
  refine kw_aload_n (pc := 403) (i := 179) (k := 3) (n := 0) (kl_a2 59 rfl) rfl rfl ?_
  refine kw_iload_n (pc := 404) (i := 180) (k := 0) (n := 3) (kl_a3 0 rfl) rfl rfl ?_
  refine kw_iconst (pc := 405) (i := 181) (v := 5) (kl_a3 1 rfl) rfl ?_
  refine kw_iadd (pc := 406) (i := 182) (kl_a3 2 rfl) (fun z19 e_z19 t_z19 => ?_)
  subst e_z19
  clear t_z19
  refine kw_tld (pc := 407) (i := 183) (k := 0) (n := L) (kl_a3 3 rfl) rfl (by omega) (by omega) (fun z20 e_z20 => ?_)
  subst e_z20
  refine kw_callM (pc := 408) (i := 184) (Y := mX8_copy) (xs := [xs (x3 + 1).toNatClampNeg, xs (x3 + 2).toNatClampNeg, xs (x3 + 3).toNatClampNeg, xs (x3 + 4).toNatClampNeg, xs (x3 + 5).toNatClampNeg]) (st := []) kl_hE (kl_a3 4 rfl) lvL_36 arX8_copy (c_X8_copy_0 l T (by omega) (by omega) (kw_sh 61 (kw_mixX σ sX)) (by rw [kw_sh_mixX]; exact hM) (xs (x3 + 1).toNatClampNeg) (xs (x3 + 2).toNatClampNeg) (xs (x3 + 3).toNatClampNeg) (xs (x3 + 4).toNatClampNeg) (xs (x3 + 5).toNatClampNeg) ) (by decide) (Nat.le_of_ble_eq_true rfl) rfl (fun _ _ q => by obtain ⟨-, r, rfl, -⟩ := q; exact fun _ _ => rfl) (fun v sM pM => ?_)
  obtain ⟨⟨IM, FM⟩, rM, rfl, eM⟩ := pM
  rw [kw_sh_mixX] at FM eM
  have AX : kw_I bX (kw_mixM (kw_mixX σ sX) sM) := kw_IX_mixM (kw_IX_mixX IX)
  have AM : kw_I (bM T) (kw_sh 61 (kw_mixM (kw_mixX σ sX) sM)) := by rw [kw_sh_mixM]; exact IM
  have Q := (show kr_R sX sM ∧ rX = rM from ⟨⟨hR.1.fr FX FM (by decide) (by decide), hR.2.1.fr FX FM (by decide) (by decide), hR.2.2.1.fr hR.2.1 FX FM (by decide) (by decide), (kr_W_copy hX hR.2.2.2 (xs (x3 + 1).toNatClampNeg) (xs (x3 + 2).toNatClampNeg) (xs (x3 + 3).toNatClampNeg) (xs (x3 + 4).toNatClampNeg) (xs (x3 + 5).toNatClampNeg) eX eM).1⟩, (kr_W_copy hX hR.2.2.2 (xs (x3 + 1).toNatClampNeg) (xs (x3 + 2).toNatClampNeg) (xs (x3 + 3).toNatClampNeg) (xs (x3 + 4).toNatClampNeg) (xs (x3 + 5).toNatClampNeg) eX eM).2⟩)
  have AR : kr_R (kw_mixM (kw_mixX σ sX) sM) (kw_sh 61 (kw_mixM (kw_mixX σ sX) sM)) := by rw [kw_sh_mixM]; exact ⟨(Q.1).1.mix, (Q.1).2.1.mix, kr_D.mix (Q.1).2.1 (Q.1).2.2.1, (Q.1).2.2.2.mix⟩
  generalize (kw_mixM (kw_mixX σ sX) sM) = J at AX AM AR ⊢
  show kw_AW l 30 ((1002, L, xs) :: kw_E0) KJ mL_law kl_P 411 [(3, .int x3), (2, .ref 61), (1, .ref 0), (0, .ref 1002)] [.int rM] J
  refine kw_pop (pc := 411) (i := 185) (kl_a3 5 rfl) rfl ?_
  refine kw_goto (pc := 412) (i := 186) (tgt := 1359) (kl_a3 6 rfl) rfl ?_
  exact hnext J T AX AM AR (by omega) (by omega)
set_option maxRecDepth 100000 in
set_option maxHeartbeats 4000000 in
theorem kl_case5 (l : Launch) (L : Nat) (xs : Nat → Int32) (hL : L ≤ 384) (x3 : Int32) (h0 : 0 ≤ x3.toInt) (h1 : x3.toInt + 6 ≤ L) (σ : kw_S) (T : Int) (hX : kw_I bX σ) (hM : kw_I (bM T) (kw_sh 61 σ)) (hR : kr_R σ (kw_sh 61 σ)) (hT0 : 0 ≤ T) (hT1 : T ≤ 2000) (hnext : ∀ (S : kw_S) (T' : Int), kw_I bX S → kw_I (bM T') (kw_sh 61 S) → kr_R S (kw_sh 61 S) → 0 ≤ T' → T' ≤ T + 20 → kw_AW l 30 ((1002, L, xs) :: kw_E0) KJ mL_law kl_P 1359 [(3, .int x3), (2, .ref 61), (1, .ref 0), (0, .ref 1002)] [] S) : kw_AW l 30 ((1002, L, xs) :: kw_E0) KJ mL_law kl_P 415 [(3, .int x3), (2, .ref 61), (1, .ref 0), (0, .ref 1002)] [] σ := by
  have u1 : (x3 + 1).toInt = x3.toInt + 1 := by rw [kw_addI, show (1 : Int32).toInt = 1 from rfl]; omega
  have u2 : (x3 + 2).toInt = x3.toInt + 2 := by rw [kw_addI, show (2 : Int32).toInt = 2 from rfl]; omega
  have u3 : (x3 + 3).toInt = x3.toInt + 3 := by rw [kw_addI, show (3 : Int32).toInt = 3 from rfl]; omega
  have u4 : (x3 + 4).toInt = x3.toInt + 4 := by rw [kw_addI, show (4 : Int32).toInt = 4 from rfl]; omega
  have u5 : (x3 + 5).toInt = x3.toInt + 5 := by rw [kw_addI, show (5 : Int32).toInt = 5 from rfl]; omega
  refine kw_aload_n (pc := 415) (i := 187) (k := 2) (n := 1) (kl_a3 7 rfl) rfl rfl ?_
  refine kw_aload_n (pc := 416) (i := 188) (k := 3) (n := 0) (kl_a3 8 rfl) rfl rfl ?_
  refine kw_iload_n (pc := 417) (i := 189) (k := 0) (n := 3) (kl_a3 9 rfl) rfl rfl ?_
  refine kw_iconst (pc := 418) (i := 190) (v := 1) (kl_a3 10 rfl) rfl ?_
  refine kw_iadd (pc := 419) (i := 191) (kl_a3 11 rfl) (fun z1 e_z1 t_z1 => ?_)
  subst e_z1
  clear t_z1
  refine kw_tld (pc := 420) (i := 192) (k := 0) (n := L) (kl_a3 12 rfl) rfl (by omega) (by omega) (fun z2 e_z2 => ?_)
  subst e_z2
  refine kw_callX (pc := 421) (i := 193) (Y := mX7_mean) (xs := [xs (x3 + 1).toNatClampNeg]) (st := []) kl_hE (kl_a3 13 rfl) lvL_37 arX7_mean (c_X7_mean_0 l σ hX (xs (x3 + 1).toNatClampNeg) ) (by decide) (Nat.le_of_ble_eq_true rfl) rfl (fun v sX pX => ?_)
  obtain ⟨⟨IX, FX⟩, rX, rfl, eX⟩ := pX
  show kw_AW l 30 ((1002, L, xs) :: kw_E0) KJ mL_law kl_P 424 [(3, .int x3), (2, .ref 61), (1, .ref 0), (0, .ref 1002)] [.int rX] (kw_mixX σ sX)
  refine kw_aload_n (pc := 424) (i := 194) (k := 1) (n := 2) (kl_a3 14 rfl) rfl rfl ?_
  refine kw_aload_n (pc := 425) (i := 195) (k := 3) (n := 0) (kl_a3 15 rfl) rfl rfl ?_
  refine kw_iload_n (pc := 426) (i := 196) (k := 0) (n := 3) (kl_a3 16 rfl) rfl rfl ?_
  refine kw_iconst (pc := 427) (i := 197) (v := 1) (kl_a3 17 rfl) rfl ?_
  refine kw_iadd (pc := 428) (i := 198) (kl_a3 18 rfl) (fun z3 e_z3 t_z3 => ?_)
  subst e_z3
  clear t_z3
  refine kw_tld (pc := 429) (i := 199) (k := 0) (n := L) (kl_a3 19 rfl) rfl (by omega) (by omega) (fun z4 e_z4 => ?_)
  subst e_z4
  refine kw_callM (pc := 430) (i := 200) (Y := mX8_mean) (xs := [xs (x3 + 1).toNatClampNeg]) (st := [.int rX]) kl_hE (kl_a3 20 rfl) lvL_40 arX8_mean (c_X8_mean_0 l T (by omega) (by omega) (kw_sh 61 (kw_mixX σ sX)) (by rw [kw_sh_mixX]; exact hM) (xs (x3 + 1).toNatClampNeg) ) (by decide) (Nat.le_of_ble_eq_true rfl) rfl (fun _ _ q => by obtain ⟨-, r, rfl, -⟩ := q; exact fun _ _ => rfl) (fun v sM pM => ?_)
  obtain ⟨⟨IM, FM⟩, rM, rfl, eM⟩ := pM
  rw [kw_sh_mixX] at FM eM
  have AX : kw_I bX (kw_mixM (kw_mixX σ sX) sM) := kw_IX_mixM (kw_IX_mixX IX)
  have AM : kw_I (bM T) (kw_sh 61 (kw_mixM (kw_mixX σ sX) sM)) := by rw [kw_sh_mixM]; exact IM
  have Q := (show kr_R sX sM ∧ rX = rM from ⟨kr_R.fr hR FX FM (by decide) (by decide), kr_W_mean hX hR.2.2.2 (xs (x3 + 1).toNatClampNeg) eX eM⟩)
  have AR : kr_R (kw_mixM (kw_mixX σ sX) sM) (kw_sh 61 (kw_mixM (kw_mixX σ sX) sM)) := by rw [kw_sh_mixM]; exact ⟨(Q.1).1.mix, (Q.1).2.1.mix, kr_D.mix (Q.1).2.1 (Q.1).2.2.1, (Q.1).2.2.2.mix⟩
  generalize (kw_mixM (kw_mixX σ sX) sM) = J at AX AM AR ⊢
  show kw_AW l 30 ((1002, L, xs) :: kw_E0) KJ mL_law kl_P 433 [(3, .int x3), (2, .ref 61), (1, .ref 0), (0, .ref 1002)] [.int rM, .int rX] J
  refine kw_icmp_eq (pc := 433) (i := 201) (tgt := 1359) (kl_a3 21 rfl) rfl (fun _ => ?_) (fun c => ?_)
  · exact hnext J T AX AM AR (by omega) (by omega)
  · exact absurd (congrArg Int32.toInt Q.2) c
set_option maxRecDepth 100000 in
set_option maxHeartbeats 4000000 in
theorem kl_case6 (l : Launch) (L : Nat) (xs : Nat → Int32) (hL : L ≤ 384) (x3 : Int32) (h0 : 0 ≤ x3.toInt) (h1 : x3.toInt + 6 ≤ L) (σ : kw_S) (T : Int) (hX : kw_I bX σ) (hM : kw_I (bM T) (kw_sh 61 σ)) (hR : kr_R σ (kw_sh 61 σ)) (hT0 : 0 ≤ T) (hT1 : T ≤ 2000) (hnext : ∀ (S : kw_S) (T' : Int), kw_I bX S → kw_I (bM T') (kw_sh 61 S) → kr_R S (kw_sh 61 S) → 0 ≤ T' → T' ≤ T + 20 → kw_AW l 30 ((1002, L, xs) :: kw_E0) KJ mL_law kl_P 1359 [(3, .int x3), (2, .ref 61), (1, .ref 0), (0, .ref 1002)] [] S) : kw_AW l 30 ((1002, L, xs) :: kw_E0) KJ mL_law kl_P 438 [(3, .int x3), (2, .ref 61), (1, .ref 0), (0, .ref 1002)] [] σ := by
  have u1 : (x3 + 1).toInt = x3.toInt + 1 := by rw [kw_addI, show (1 : Int32).toInt = 1 from rfl]; omega
  have u2 : (x3 + 2).toInt = x3.toInt + 2 := by rw [kw_addI, show (2 : Int32).toInt = 2 from rfl]; omega
  have u3 : (x3 + 3).toInt = x3.toInt + 3 := by rw [kw_addI, show (3 : Int32).toInt = 3 from rfl]; omega
  have u4 : (x3 + 4).toInt = x3.toInt + 4 := by rw [kw_addI, show (4 : Int32).toInt = 4 from rfl]; omega
  have u5 : (x3 + 5).toInt = x3.toInt + 5 := by rw [kw_addI, show (5 : Int32).toInt = 5 from rfl]; omega
  refine kw_aload_n (pc := 438) (i := 204) (k := 2) (n := 1) (kl_a3 24 rfl) rfl rfl ?_
  refine kw_aload_n (pc := 439) (i := 205) (k := 3) (n := 0) (kl_a3 25 rfl) rfl rfl ?_
  refine kw_iload_n (pc := 440) (i := 206) (k := 0) (n := 3) (kl_a3 26 rfl) rfl rfl ?_
  refine kw_iconst (pc := 441) (i := 207) (v := 1) (kl_a3 27 rfl) rfl ?_
  refine kw_iadd (pc := 442) (i := 208) (kl_a3 28 rfl) (fun z1 e_z1 t_z1 => ?_)
  subst e_z1
  clear t_z1
  refine kw_tld (pc := 443) (i := 209) (k := 0) (n := L) (kl_a3 29 rfl) rfl (by omega) (by omega) (fun z2 e_z2 => ?_)
  subst e_z2
  refine kw_aload_n (pc := 444) (i := 210) (k := 3) (n := 0) (kl_a3 30 rfl) rfl rfl ?_
  refine kw_iload_n (pc := 445) (i := 211) (k := 0) (n := 3) (kl_a3 31 rfl) rfl rfl ?_
  refine kw_iconst (pc := 446) (i := 212) (v := 2) (kl_a3 32 rfl) rfl ?_
  refine kw_iadd (pc := 447) (i := 213) (kl_a3 33 rfl) (fun z3 e_z3 t_z3 => ?_)
  subst e_z3
  clear t_z3
  refine kw_tld (pc := 448) (i := 214) (k := 0) (n := L) (kl_a3 34 rfl) rfl (by omega) (by omega) (fun z4 e_z4 => ?_)
  subst e_z4
  refine kw_callX (pc := 449) (i := 215) (Y := mX7_text) (xs := [xs (x3 + 1).toNatClampNeg, xs (x3 + 2).toNatClampNeg]) (st := []) kl_hE (kl_a3 35 rfl) lvL_41 arX7_text (c_X7_text_0 l σ hX (xs (x3 + 1).toNatClampNeg) (xs (x3 + 2).toNatClampNeg) ) (by decide) (Nat.le_of_ble_eq_true rfl) rfl (fun v sX pX => ?_)
  obtain ⟨⟨IX, FX⟩, rX, rfl, f5, eX⟩ := pX
  show kw_AW l 30 ((1002, L, xs) :: kw_E0) KJ mL_law kl_P 452 [(3, .int x3), (2, .ref 61), (1, .ref 0), (0, .ref 1002)] [.int rX] (kw_mixX σ sX)
  refine kw_pop (pc := 452) (i := 216) (kl_a3 36 rfl) rfl ?_
  refine kw_aload_n (pc := 453) (i := 217) (k := 1) (n := 2) (kl_a3 37 rfl) rfl rfl ?_
  refine kw_aload_n (pc := 454) (i := 218) (k := 3) (n := 0) (kl_a3 38 rfl) rfl rfl ?_
  refine kw_iload_n (pc := 455) (i := 219) (k := 0) (n := 3) (kl_a3 39 rfl) rfl rfl ?_
  refine kw_iconst (pc := 456) (i := 220) (v := 1) (kl_a3 40 rfl) rfl ?_
  refine kw_iadd (pc := 457) (i := 221) (kl_a3 41 rfl) (fun z6 e_z6 t_z6 => ?_)
  subst e_z6
  clear t_z6
  refine kw_tld (pc := 458) (i := 222) (k := 0) (n := L) (kl_a3 42 rfl) rfl (by omega) (by omega) (fun z7 e_z7 => ?_)
  subst e_z7
  refine kw_aload_n (pc := 459) (i := 223) (k := 3) (n := 0) (kl_a3 43 rfl) rfl rfl ?_
  refine kw_iload_n (pc := 460) (i := 224) (k := 0) (n := 3) (kl_a3 44 rfl) rfl rfl ?_
  refine kw_iconst (pc := 461) (i := 225) (v := 2) (kl_a3 45 rfl) rfl ?_
  refine kw_iadd (pc := 462) (i := 226) (kl_a3 46 rfl) (fun z8 e_z8 t_z8 => ?_)
  subst e_z8
  clear t_z8
  refine kw_tld (pc := 463) (i := 227) (k := 0) (n := L) (kl_a3 47 rfl) rfl (by omega) (by omega) (fun z9 e_z9 => ?_)
  subst e_z9
  refine kw_callM (pc := 464) (i := 228) (Y := mX8_text) (xs := [xs (x3 + 1).toNatClampNeg, xs (x3 + 2).toNatClampNeg]) (st := []) kl_hE (kl_a3 48 rfl) lvL_44 arX8_text (c_X8_text_0 l T (by omega) (by omega) (kw_sh 61 (kw_mixX σ sX)) (by rw [kw_sh_mixX]; exact hM) (xs (x3 + 1).toNatClampNeg) (xs (x3 + 2).toNatClampNeg) ) (by decide) (Nat.le_of_ble_eq_true rfl) rfl (fun _ _ q => by obtain ⟨-, r, rfl, -⟩ := q; exact fun _ _ => rfl) (fun v sM pM => ?_)
  obtain ⟨⟨IM, FM⟩, rM, rfl, f10, eM⟩ := pM
  rw [kw_sh_mixX] at FM eM
  first | rw [kw_sh_mixX] at f10 | skip
  have AX : kw_I bX (kw_mixM (kw_mixX σ sX) sM) := kw_IX_mixM (kw_IX_mixX IX)
  have AM : kw_I (bM T) (kw_sh 61 (kw_mixM (kw_mixX σ sX) sM)) := by rw [kw_sh_mixM]; exact IM
  have Q := (show kr_R sX sM ∧ rX = rM from ⟨⟨(kr_T_text hX hR.1 (xs (x3 + 1).toNatClampNeg) (xs (x3 + 2).toNatClampNeg) eX eM).1, hR.2.1.fr FX FM (by decide) (by decide), hR.2.2.1.fr hR.2.1 FX FM (by decide) (by decide), hR.2.2.2.fr FX FM (by decide) (by decide)⟩, (kr_T_text hX hR.1 (xs (x3 + 1).toNatClampNeg) (xs (x3 + 2).toNatClampNeg) eX eM).2⟩)
  have AR : kr_R (kw_mixM (kw_mixX σ sX) sM) (kw_sh 61 (kw_mixM (kw_mixX σ sX) sM)) := by rw [kw_sh_mixM]; exact ⟨(Q.1).1.mix, (Q.1).2.1.mix, kr_D.mix (Q.1).2.1 (Q.1).2.2.1, (Q.1).2.2.2.mix⟩
  generalize (kw_mixM (kw_mixX σ sX) sM) = J at AX AM AR ⊢
  show kw_AW l 30 ((1002, L, xs) :: kw_E0) KJ mL_law kl_P 467 [(3, .int x3), (2, .ref 61), (1, .ref 0), (0, .ref 1002)] [.int rM] J
  refine kw_pop (pc := 467) (i := 229) (kl_a3 49 rfl) rfl ?_
  refine kw_goto (pc := 468) (i := 230) (tgt := 1359) (kl_a3 50 rfl) rfl ?_
  exact hnext J T AX AM AR (by omega) (by omega)
set_option maxRecDepth 100000 in
set_option maxHeartbeats 4000000 in
theorem kl_case7 (l : Launch) (L : Nat) (xs : Nat → Int32) (hL : L ≤ 384) (x3 : Int32) (h0 : 0 ≤ x3.toInt) (h1 : x3.toInt + 6 ≤ L) (σ : kw_S) (T : Int) (hX : kw_I bX σ) (hM : kw_I (bM T) (kw_sh 61 σ)) (hR : kr_R σ (kw_sh 61 σ)) (hT0 : 0 ≤ T) (hT1 : T ≤ 2000) (hnext : ∀ (S : kw_S) (T' : Int), kw_I bX S → kw_I (bM T') (kw_sh 61 S) → kr_R S (kw_sh 61 S) → 0 ≤ T' → T' ≤ T + 20 → kw_AW l 30 ((1002, L, xs) :: kw_E0) KJ mL_law kl_P 1359 [(3, .int x3), (2, .ref 61), (1, .ref 0), (0, .ref 1002)] [] S) : kw_AW l 30 ((1002, L, xs) :: kw_E0) KJ mL_law kl_P 471 [(3, .int x3), (2, .ref 61), (1, .ref 0), (0, .ref 1002)] [] σ := by
  have u1 : (x3 + 1).toInt = x3.toInt + 1 := by rw [kw_addI, show (1 : Int32).toInt = 1 from rfl]; omega
  have u2 : (x3 + 2).toInt = x3.toInt + 2 := by rw [kw_addI, show (2 : Int32).toInt = 2 from rfl]; omega
  have u3 : (x3 + 3).toInt = x3.toInt + 3 := by rw [kw_addI, show (3 : Int32).toInt = 3 from rfl]; omega
  have u4 : (x3 + 4).toInt = x3.toInt + 4 := by rw [kw_addI, show (4 : Int32).toInt = 4 from rfl]; omega
  have u5 : (x3 + 5).toInt = x3.toInt + 5 := by rw [kw_addI, show (5 : Int32).toInt = 5 from rfl]; omega
  refine kw_aload_n (pc := 471) (i := 231) (k := 2) (n := 1) (kl_a3 51 rfl) rfl rfl ?_
  refine kw_aload_n (pc := 472) (i := 232) (k := 3) (n := 0) (kl_a3 52 rfl) rfl rfl ?_
  refine kw_iload_n (pc := 473) (i := 233) (k := 0) (n := 3) (kl_a3 53 rfl) rfl rfl ?_
  refine kw_iconst (pc := 474) (i := 234) (v := 1) (kl_a3 54 rfl) rfl ?_
  refine kw_iadd (pc := 475) (i := 235) (kl_a3 55 rfl) (fun z1 e_z1 t_z1 => ?_)
  subst e_z1
  clear t_z1
  refine kw_tld (pc := 476) (i := 236) (k := 0) (n := L) (kl_a3 56 rfl) rfl (by omega) (by omega) (fun z2 e_z2 => ?_)
  subst e_z2
  refine kw_aload_n (pc := 477) (i := 237) (k := 3) (n := 0) (kl_a3 57 rfl) rfl rfl ?_
  refine kw_iload_n (pc := 478) (i := 238) (k := 0) (n := 3) (kl_a3 58 rfl) rfl rfl ?_
  refine kw_iconst (pc := 479) (i := 239) (v := 2) (kl_a3 59 rfl) rfl ?_
  refine kw_iadd (pc := 480) (i := 240) (kl_a4 0 rfl) (fun z3 e_z3 t_z3 => ?_)
  subst e_z3
  clear t_z3
  refine kw_tld (pc := 481) (i := 241) (k := 0) (n := L) (kl_a4 1 rfl) rfl (by omega) (by omega) (fun z4 e_z4 => ?_)
  subst e_z4
  refine kw_aload_n (pc := 482) (i := 242) (k := 3) (n := 0) (kl_a4 2 rfl) rfl rfl ?_
  refine kw_iload_n (pc := 483) (i := 243) (k := 0) (n := 3) (kl_a4 3 rfl) rfl rfl ?_
  refine kw_iconst (pc := 484) (i := 244) (v := 3) (kl_a4 4 rfl) rfl ?_
  refine kw_iadd (pc := 485) (i := 245) (kl_a4 5 rfl) (fun z5 e_z5 t_z5 => ?_)
  subst e_z5
  clear t_z5
  refine kw_tld (pc := 486) (i := 246) (k := 0) (n := L) (kl_a4 6 rfl) rfl (by omega) (by omega) (fun z6 e_z6 => ?_)
  subst e_z6
  refine kw_callX (pc := 487) (i := 247) (Y := mX7_put) (xs := [xs (x3 + 1).toNatClampNeg, xs (x3 + 2).toNatClampNeg, xs (x3 + 3).toNatClampNeg]) (st := []) kl_hE (kl_a4 7 rfl) lvL_45 arX7_put (c_X7_put_0 l σ hX (xs (x3 + 1).toNatClampNeg) (xs (x3 + 2).toNatClampNeg) (xs (x3 + 3).toNatClampNeg) ) (by decide) (Nat.le_of_ble_eq_true rfl) rfl (fun v sX pX => ?_)
  obtain ⟨⟨IX, FX⟩, rX, rfl, eX⟩ := pX
  show kw_AW l 30 ((1002, L, xs) :: kw_E0) KJ mL_law kl_P 490 [(3, .int x3), (2, .ref 61), (1, .ref 0), (0, .ref 1002)] [.int rX] (kw_mixX σ sX)
  refine kw_pop (pc := 490) (i := 248) (kl_a4 8 rfl) rfl ?_
  refine kw_aload_n (pc := 491) (i := 249) (k := 1) (n := 2) (kl_a4 9 rfl) rfl rfl ?_
  refine kw_aload_n (pc := 492) (i := 250) (k := 3) (n := 0) (kl_a4 10 rfl) rfl rfl ?_
  refine kw_iload_n (pc := 493) (i := 251) (k := 0) (n := 3) (kl_a4 11 rfl) rfl rfl ?_
  refine kw_iconst (pc := 494) (i := 252) (v := 1) (kl_a4 12 rfl) rfl ?_
  refine kw_iadd (pc := 495) (i := 253) (kl_a4 13 rfl) (fun z7 e_z7 t_z7 => ?_)
  subst e_z7
  clear t_z7
  refine kw_tld (pc := 496) (i := 254) (k := 0) (n := L) (kl_a4 14 rfl) rfl (by omega) (by omega) (fun z8 e_z8 => ?_)
  subst e_z8
  refine kw_aload_n (pc := 497) (i := 255) (k := 3) (n := 0) (kl_a4 15 rfl) rfl rfl ?_
  refine kw_iload_n (pc := 498) (i := 256) (k := 0) (n := 3) (kl_a4 16 rfl) rfl rfl ?_
  refine kw_iconst (pc := 499) (i := 257) (v := 2) (kl_a4 17 rfl) rfl ?_
  refine kw_iadd (pc := 500) (i := 258) (kl_a4 18 rfl) (fun z9 e_z9 t_z9 => ?_)
  subst e_z9
  clear t_z9
  refine kw_tld (pc := 501) (i := 259) (k := 0) (n := L) (kl_a4 19 rfl) rfl (by omega) (by omega) (fun z10 e_z10 => ?_)
  subst e_z10
  refine kw_aload_n (pc := 502) (i := 260) (k := 3) (n := 0) (kl_a4 20 rfl) rfl rfl ?_
  refine kw_iload_n (pc := 503) (i := 261) (k := 0) (n := 3) (kl_a4 21 rfl) rfl rfl ?_
  refine kw_iconst (pc := 504) (i := 262) (v := 3) (kl_a4 22 rfl) rfl ?_
  refine kw_iadd (pc := 505) (i := 263) (kl_a4 23 rfl) (fun z11 e_z11 t_z11 => ?_)
  subst e_z11
  clear t_z11
  refine kw_tld (pc := 506) (i := 264) (k := 0) (n := L) (kl_a4 24 rfl) rfl (by omega) (by omega) (fun z12 e_z12 => ?_)
  subst e_z12
  refine kw_callM (pc := 507) (i := 265) (Y := mX8_put) (xs := [xs (x3 + 1).toNatClampNeg, xs (x3 + 2).toNatClampNeg, xs (x3 + 3).toNatClampNeg]) (st := []) kl_hE (kl_a4 25 rfl) lvL_48 arX8_put (c_X8_put_0 l T (by omega) (by omega) (kw_sh 61 (kw_mixX σ sX)) (by rw [kw_sh_mixX]; exact hM) (xs (x3 + 1).toNatClampNeg) (xs (x3 + 2).toNatClampNeg) (xs (x3 + 3).toNatClampNeg) ) (by decide) (Nat.le_of_ble_eq_true rfl) rfl (fun _ _ q => by obtain ⟨-, r, rfl, -⟩ := q; exact fun _ _ => rfl) (fun v sM pM => ?_)
  obtain ⟨⟨IM, FM⟩, rM, rfl, eM⟩ := pM
  rw [kw_sh_mixX] at FM eM
  have AX : kw_I bX (kw_mixM (kw_mixX σ sX) sM) := kw_IX_mixM (kw_IX_mixX IX)
  have AM : kw_I (bM T) (kw_sh 61 (kw_mixM (kw_mixX σ sX) sM)) := by rw [kw_sh_mixM]; exact IM
  have Q := (show kr_R sX sM ∧ rX = rM from ⟨⟨(kr_T_put hX hM hR.1 (xs (x3 + 1).toNatClampNeg) (xs (x3 + 2).toNatClampNeg) (xs (x3 + 3).toNatClampNeg) eX eM).1, hR.2.1.fr FX FM (by decide) (by decide), hR.2.2.1.fr hR.2.1 FX FM (by decide) (by decide), hR.2.2.2.fr FX FM (by decide) (by decide)⟩, (kr_T_put hX hM hR.1 (xs (x3 + 1).toNatClampNeg) (xs (x3 + 2).toNatClampNeg) (xs (x3 + 3).toNatClampNeg) eX eM).2⟩)
  have AR : kr_R (kw_mixM (kw_mixX σ sX) sM) (kw_sh 61 (kw_mixM (kw_mixX σ sX) sM)) := by rw [kw_sh_mixM]; exact ⟨(Q.1).1.mix, (Q.1).2.1.mix, kr_D.mix (Q.1).2.1 (Q.1).2.2.1, (Q.1).2.2.2.mix⟩
  generalize (kw_mixM (kw_mixX σ sX) sM) = J at AX AM AR ⊢
  show kw_AW l 30 ((1002, L, xs) :: kw_E0) KJ mL_law kl_P 510 [(3, .int x3), (2, .ref 61), (1, .ref 0), (0, .ref 1002)] [.int rM] J
  refine kw_pop (pc := 510) (i := 266) (kl_a4 26 rfl) rfl ?_
  refine kw_goto (pc := 511) (i := 267) (tgt := 1359) (kl_a4 27 rfl) rfl ?_
  exact hnext J T AX AM AR (by omega) (by omega)
set_option maxRecDepth 100000 in
set_option maxHeartbeats 4000000 in
theorem kl_case8 (l : Launch) (L : Nat) (xs : Nat → Int32) (hL : L ≤ 384) (x3 : Int32) (h0 : 0 ≤ x3.toInt) (h1 : x3.toInt + 6 ≤ L) (σ : kw_S) (T : Int) (hX : kw_I bX σ) (hM : kw_I (bM T) (kw_sh 61 σ)) (hR : kr_R σ (kw_sh 61 σ)) (hT0 : 0 ≤ T) (hT1 : T ≤ 2000) (hnext : ∀ (S : kw_S) (T' : Int), kw_I bX S → kw_I (bM T') (kw_sh 61 S) → kr_R S (kw_sh 61 S) → 0 ≤ T' → T' ≤ T + 20 → kw_AW l 30 ((1002, L, xs) :: kw_E0) KJ mL_law kl_P 1359 [(3, .int x3), (2, .ref 61), (1, .ref 0), (0, .ref 1002)] [] S) : kw_AW l 30 ((1002, L, xs) :: kw_E0) KJ mL_law kl_P 514 [(3, .int x3), (2, .ref 61), (1, .ref 0), (0, .ref 1002)] [] σ := by
  have u1 : (x3 + 1).toInt = x3.toInt + 1 := by rw [kw_addI, show (1 : Int32).toInt = 1 from rfl]; omega
  have u2 : (x3 + 2).toInt = x3.toInt + 2 := by rw [kw_addI, show (2 : Int32).toInt = 2 from rfl]; omega
  have u3 : (x3 + 3).toInt = x3.toInt + 3 := by rw [kw_addI, show (3 : Int32).toInt = 3 from rfl]; omega
  have u4 : (x3 + 4).toInt = x3.toInt + 4 := by rw [kw_addI, show (4 : Int32).toInt = 4 from rfl]; omega
  have u5 : (x3 + 5).toInt = x3.toInt + 5 := by rw [kw_addI, show (5 : Int32).toInt = 5 from rfl]; omega
  refine kw_aload_n (pc := 514) (i := 268) (k := 2) (n := 1) (kl_a4 28 rfl) rfl rfl ?_
  refine kw_aload_n (pc := 515) (i := 269) (k := 3) (n := 0) (kl_a4 29 rfl) rfl rfl ?_
  refine kw_iload_n (pc := 516) (i := 270) (k := 0) (n := 3) (kl_a4 30 rfl) rfl rfl ?_
  refine kw_iconst (pc := 517) (i := 271) (v := 1) (kl_a4 31 rfl) rfl ?_
  refine kw_iadd (pc := 518) (i := 272) (kl_a4 32 rfl) (fun z1 e_z1 t_z1 => ?_)
  subst e_z1
  clear t_z1
  refine kw_tld (pc := 519) (i := 273) (k := 0) (n := L) (kl_a4 33 rfl) rfl (by omega) (by omega) (fun z2 e_z2 => ?_)
  subst e_z2
  refine kw_callX (pc := 520) (i := 274) (Y := mX7_fault) (xs := [xs (x3 + 1).toNatClampNeg]) (st := []) kl_hE (kl_a4 34 rfl) lvL_49 arX7_fault (c_X7_fault_0 l σ hX (xs (x3 + 1).toNatClampNeg) ) (by decide) (Nat.le_of_ble_eq_true rfl) rfl (fun v sX pX => ?_)
  obtain ⟨⟨IX, FX⟩, rX, rfl, eX⟩ := pX
  show kw_AW l 30 ((1002, L, xs) :: kw_E0) KJ mL_law kl_P 523 [(3, .int x3), (2, .ref 61), (1, .ref 0), (0, .ref 1002)] [.int rX] (kw_mixX σ sX)
  refine kw_pop (pc := 523) (i := 275) (kl_a4 35 rfl) rfl ?_
  refine kw_aload_n (pc := 524) (i := 276) (k := 1) (n := 2) (kl_a4 36 rfl) rfl rfl ?_
  refine kw_aload_n (pc := 525) (i := 277) (k := 3) (n := 0) (kl_a4 37 rfl) rfl rfl ?_
  refine kw_iload_n (pc := 526) (i := 278) (k := 0) (n := 3) (kl_a4 38 rfl) rfl rfl ?_
  refine kw_iconst (pc := 527) (i := 279) (v := 1) (kl_a4 39 rfl) rfl ?_
  refine kw_iadd (pc := 528) (i := 280) (kl_a4 40 rfl) (fun z3 e_z3 t_z3 => ?_)
  subst e_z3
  clear t_z3
  refine kw_tld (pc := 529) (i := 281) (k := 0) (n := L) (kl_a4 41 rfl) rfl (by omega) (by omega) (fun z4 e_z4 => ?_)
  subst e_z4
  refine kw_callM (pc := 530) (i := 282) (Y := mX8_fault) (xs := [xs (x3 + 1).toNatClampNeg]) (st := []) kl_hE (kl_a4 42 rfl) lvL_52 arX8_fault (c_X8_fault_0 l T (by omega) (by omega) (kw_sh 61 (kw_mixX σ sX)) (by rw [kw_sh_mixX]; exact hM) (xs (x3 + 1).toNatClampNeg) ) (by decide) (Nat.le_of_ble_eq_true rfl) rfl (fun _ _ q => by obtain ⟨-, r, rfl, -⟩ := q; exact fun _ _ => rfl) (fun v sM pM => ?_)
  obtain ⟨⟨IM, FM⟩, rM, rfl, eM⟩ := pM
  rw [kw_sh_mixX] at FM eM
  have AX : kw_I bX (kw_mixM (kw_mixX σ sX) sM) := kw_IX_mixM (kw_IX_mixX IX)
  have AM : kw_I (bM T) (kw_sh 61 (kw_mixM (kw_mixX σ sX) sM)) := by rw [kw_sh_mixM]; exact IM
  have Q := (show kr_R sX sM ∧ rX = rM from ⟨kr_R.fr hR FX FM (by decide) (by decide), kr_fault hX hR.1 (xs (x3 + 1).toNatClampNeg) eX eM⟩)
  have AR : kr_R (kw_mixM (kw_mixX σ sX) sM) (kw_sh 61 (kw_mixM (kw_mixX σ sX) sM)) := by rw [kw_sh_mixM]; exact ⟨(Q.1).1.mix, (Q.1).2.1.mix, kr_D.mix (Q.1).2.1 (Q.1).2.2.1, (Q.1).2.2.2.mix⟩
  generalize (kw_mixM (kw_mixX σ sX) sM) = J at AX AM AR ⊢
  show kw_AW l 30 ((1002, L, xs) :: kw_E0) KJ mL_law kl_P 533 [(3, .int x3), (2, .ref 61), (1, .ref 0), (0, .ref 1002)] [.int rM] J
  refine kw_pop (pc := 533) (i := 283) (kl_a4 43 rfl) rfl ?_
  refine kw_goto (pc := 534) (i := 284) (tgt := 1359) (kl_a4 44 rfl) rfl ?_
  exact hnext J T AX AM AR (by omega) (by omega)
set_option maxRecDepth 100000 in
set_option maxHeartbeats 4000000 in
theorem kl_case9 (l : Launch) (L : Nat) (xs : Nat → Int32) (hL : L ≤ 384) (x3 : Int32) (h0 : 0 ≤ x3.toInt) (h1 : x3.toInt + 6 ≤ L) (σ : kw_S) (T : Int) (hX : kw_I bX σ) (hM : kw_I (bM T) (kw_sh 61 σ)) (hR : kr_R σ (kw_sh 61 σ)) (hT0 : 0 ≤ T) (hT1 : T ≤ 2000) (hnext : ∀ (S : kw_S) (T' : Int), kw_I bX S → kw_I (bM T') (kw_sh 61 S) → kr_R S (kw_sh 61 S) → 0 ≤ T' → T' ≤ T + 20 → kw_AW l 30 ((1002, L, xs) :: kw_E0) KJ mL_law kl_P 1359 [(3, .int x3), (2, .ref 61), (1, .ref 0), (0, .ref 1002)] [] S) : kw_AW l 30 ((1002, L, xs) :: kw_E0) KJ mL_law kl_P 537 [(3, .int x3), (2, .ref 61), (1, .ref 0), (0, .ref 1002)] [] σ := by
  have u1 : (x3 + 1).toInt = x3.toInt + 1 := by rw [kw_addI, show (1 : Int32).toInt = 1 from rfl]; omega
  have u2 : (x3 + 2).toInt = x3.toInt + 2 := by rw [kw_addI, show (2 : Int32).toInt = 2 from rfl]; omega
  have u3 : (x3 + 3).toInt = x3.toInt + 3 := by rw [kw_addI, show (3 : Int32).toInt = 3 from rfl]; omega
  have u4 : (x3 + 4).toInt = x3.toInt + 4 := by rw [kw_addI, show (4 : Int32).toInt = 4 from rfl]; omega
  have u5 : (x3 + 5).toInt = x3.toInt + 5 := by rw [kw_addI, show (5 : Int32).toInt = 5 from rfl]; omega
  refine kw_aload_n (pc := 537) (i := 285) (k := 2) (n := 1) (kl_a4 45 rfl) rfl rfl ?_
  refine kw_aload_n (pc := 538) (i := 286) (k := 3) (n := 0) (kl_a4 46 rfl) rfl rfl ?_
  refine kw_iload_n (pc := 539) (i := 287) (k := 0) (n := 3) (kl_a4 47 rfl) rfl rfl ?_
  refine kw_iconst (pc := 540) (i := 288) (v := 1) (kl_a4 48 rfl) rfl ?_
  refine kw_iadd (pc := 541) (i := 289) (kl_a4 49 rfl) (fun z1 e_z1 t_z1 => ?_)
  subst e_z1
  clear t_z1
  refine kw_tld (pc := 542) (i := 290) (k := 0) (n := L) (kl_a4 50 rfl) rfl (by omega) (by omega) (fun z2 e_z2 => ?_)
  subst e_z2
  refine kw_callX (pc := 543) (i := 291) (Y := mX7_town) (xs := [xs (x3 + 1).toNatClampNeg]) (st := []) kl_hE (kl_a4 51 rfl) lvL_53 arX7_town (c_X7_town_0 l σ hX (xs (x3 + 1).toNatClampNeg) ) (by decide) (Nat.le_of_ble_eq_true rfl) rfl (fun v sX pX => ?_)
  obtain ⟨⟨IX, FX⟩, rX, rfl, eX⟩ := pX
  show kw_AW l 30 ((1002, L, xs) :: kw_E0) KJ mL_law kl_P 546 [(3, .int x3), (2, .ref 61), (1, .ref 0), (0, .ref 1002)] [.int rX] (kw_mixX σ sX)
  refine kw_pop (pc := 546) (i := 292) (kl_a4 52 rfl) rfl ?_
  refine kw_aload_n (pc := 547) (i := 293) (k := 1) (n := 2) (kl_a4 53 rfl) rfl rfl ?_
  refine kw_aload_n (pc := 548) (i := 294) (k := 3) (n := 0) (kl_a4 54 rfl) rfl rfl ?_
  refine kw_iload_n (pc := 549) (i := 295) (k := 0) (n := 3) (kl_a4 55 rfl) rfl rfl ?_
  refine kw_iconst (pc := 550) (i := 296) (v := 1) (kl_a4 56 rfl) rfl ?_
  refine kw_iadd (pc := 551) (i := 297) (kl_a4 57 rfl) (fun z3 e_z3 t_z3 => ?_)
  subst e_z3
  clear t_z3
  refine kw_tld (pc := 552) (i := 298) (k := 0) (n := L) (kl_a4 58 rfl) rfl (by omega) (by omega) (fun z4 e_z4 => ?_)
  subst e_z4
  refine kw_callM (pc := 553) (i := 299) (Y := mX8_town) (xs := [xs (x3 + 1).toNatClampNeg]) (st := []) kl_hE (kl_a4 59 rfl) lvL_56 arX8_town (c_X8_town_0 l T (by omega) (by omega) (kw_sh 61 (kw_mixX σ sX)) (by rw [kw_sh_mixX]; exact hM) (xs (x3 + 1).toNatClampNeg) ) (by decide) (Nat.le_of_ble_eq_true rfl) rfl (fun _ _ q => by obtain ⟨-, r, rfl, -⟩ := q; exact fun _ _ => rfl) (fun v sM pM => ?_)
  obtain ⟨⟨IM, FM⟩, rM, rfl, eM⟩ := pM
  rw [kw_sh_mixX] at FM eM
  have AX : kw_I bX (kw_mixM (kw_mixX σ sX) sM) := kw_IX_mixM (kw_IX_mixX IX)
  have AM : kw_I (bM T) (kw_sh 61 (kw_mixM (kw_mixX σ sX) sM)) := by rw [kw_sh_mixM]; exact IM
  have Q := (show kr_R sX sM ∧ rX = rM from ⟨⟨hR.1.fr FX FM (by decide) (by decide), (kr_town hX hR.1 hR.2.1 (xs (x3 + 1).toNatClampNeg) eX eM).2.1, kr_townD hX hR.1 hR.2.1 hR.2.2.1 (xs (x3 + 1).toNatClampNeg) eX eM, hR.2.2.2.fr FX FM (by decide) (by decide)⟩, (kr_town hX hR.1 hR.2.1 (xs (x3 + 1).toNatClampNeg) eX eM).1⟩)
  have AR : kr_R (kw_mixM (kw_mixX σ sX) sM) (kw_sh 61 (kw_mixM (kw_mixX σ sX) sM)) := by rw [kw_sh_mixM]; exact ⟨(Q.1).1.mix, (Q.1).2.1.mix, kr_D.mix (Q.1).2.1 (Q.1).2.2.1, (Q.1).2.2.2.mix⟩
  generalize (kw_mixM (kw_mixX σ sX) sM) = J at AX AM AR ⊢
  show kw_AW l 30 ((1002, L, xs) :: kw_E0) KJ mL_law kl_P 556 [(3, .int x3), (2, .ref 61), (1, .ref 0), (0, .ref 1002)] [.int rM] J
  refine kw_pop (pc := 556) (i := 300) (kl_a5 0 rfl) rfl ?_
  refine kw_goto (pc := 557) (i := 301) (tgt := 1359) (kl_a5 1 rfl) rfl ?_
  exact hnext J T AX AM AR (by omega) (by omega)
set_option maxRecDepth 100000 in
set_option maxHeartbeats 4000000 in
theorem kl_case10 (l : Launch) (L : Nat) (xs : Nat → Int32) (hL : L ≤ 384) (x3 : Int32) (h0 : 0 ≤ x3.toInt) (h1 : x3.toInt + 6 ≤ L) (σ : kw_S) (T : Int) (hX : kw_I bX σ) (hM : kw_I (bM T) (kw_sh 61 σ)) (hR : kr_R σ (kw_sh 61 σ)) (hT0 : 0 ≤ T) (hT1 : T ≤ 2000) (hnext : ∀ (S : kw_S) (T' : Int), kw_I bX S → kw_I (bM T') (kw_sh 61 S) → kr_R S (kw_sh 61 S) → 0 ≤ T' → T' ≤ T + 20 → kw_AW l 30 ((1002, L, xs) :: kw_E0) KJ mL_law kl_P 1359 [(3, .int x3), (2, .ref 61), (1, .ref 0), (0, .ref 1002)] [] S) : kw_AW l 30 ((1002, L, xs) :: kw_E0) KJ mL_law kl_P 560 [(3, .int x3), (2, .ref 61), (1, .ref 0), (0, .ref 1002)] [] σ := by
  have u1 : (x3 + 1).toInt = x3.toInt + 1 := by rw [kw_addI, show (1 : Int32).toInt = 1 from rfl]; omega
  have u2 : (x3 + 2).toInt = x3.toInt + 2 := by rw [kw_addI, show (2 : Int32).toInt = 2 from rfl]; omega
  have u3 : (x3 + 3).toInt = x3.toInt + 3 := by rw [kw_addI, show (3 : Int32).toInt = 3 from rfl]; omega
  have u4 : (x3 + 4).toInt = x3.toInt + 4 := by rw [kw_addI, show (4 : Int32).toInt = 4 from rfl]; omega
  have u5 : (x3 + 5).toInt = x3.toInt + 5 := by rw [kw_addI, show (5 : Int32).toInt = 5 from rfl]; omega
  refine kw_aload_n (pc := 560) (i := 302) (k := 2) (n := 1) (kl_a5 2 rfl) rfl rfl ?_
  refine kw_aload_n (pc := 561) (i := 303) (k := 3) (n := 0) (kl_a5 3 rfl) rfl rfl ?_
  refine kw_iload_n (pc := 562) (i := 304) (k := 0) (n := 3) (kl_a5 4 rfl) rfl rfl ?_
  refine kw_iconst (pc := 563) (i := 305) (v := 1) (kl_a5 5 rfl) rfl ?_
  refine kw_iadd (pc := 564) (i := 306) (kl_a5 6 rfl) (fun z1 e_z1 t_z1 => ?_)
  subst e_z1
  clear t_z1
  refine kw_tld (pc := 565) (i := 307) (k := 0) (n := L) (kl_a5 7 rfl) rfl (by omega) (by omega) (fun z2 e_z2 => ?_)
  subst e_z2
  refine kw_aload_n (pc := 566) (i := 308) (k := 3) (n := 0) (kl_a5 8 rfl) rfl rfl ?_
  refine kw_iload_n (pc := 567) (i := 309) (k := 0) (n := 3) (kl_a5 9 rfl) rfl rfl ?_
  refine kw_iconst (pc := 568) (i := 310) (v := 2) (kl_a5 10 rfl) rfl ?_
  refine kw_iadd (pc := 569) (i := 311) (kl_a5 11 rfl) (fun z3 e_z3 t_z3 => ?_)
  subst e_z3
  clear t_z3
  refine kw_tld (pc := 570) (i := 312) (k := 0) (n := L) (kl_a5 12 rfl) rfl (by omega) (by omega) (fun z4 e_z4 => ?_)
  subst e_z4
  refine kw_callX (pc := 571) (i := 313) (Y := mX7_line) (xs := [xs (x3 + 1).toNatClampNeg, xs (x3 + 2).toNatClampNeg]) (st := []) kl_hE (kl_a5 13 rfl) lvL_57 arX7_line (c_X7_line_0 l σ hX (xs (x3 + 1).toNatClampNeg) (xs (x3 + 2).toNatClampNeg) ) (by decide) (Nat.le_of_ble_eq_true rfl) rfl (fun v sX pX => ?_)
  obtain ⟨⟨IX, FX⟩, rX, rfl, eX⟩ := pX
  show kw_AW l 30 ((1002, L, xs) :: kw_E0) KJ mL_law kl_P 574 [(3, .int x3), (2, .ref 61), (1, .ref 0), (0, .ref 1002)] [.int rX] (kw_mixX σ sX)
  refine kw_pop (pc := 574) (i := 314) (kl_a5 14 rfl) rfl ?_
  refine kw_aload_n (pc := 575) (i := 315) (k := 1) (n := 2) (kl_a5 15 rfl) rfl rfl ?_
  refine kw_aload_n (pc := 576) (i := 316) (k := 3) (n := 0) (kl_a5 16 rfl) rfl rfl ?_
  refine kw_iload_n (pc := 577) (i := 317) (k := 0) (n := 3) (kl_a5 17 rfl) rfl rfl ?_
  refine kw_iconst (pc := 578) (i := 318) (v := 1) (kl_a5 18 rfl) rfl ?_
  refine kw_iadd (pc := 579) (i := 319) (kl_a5 19 rfl) (fun z5 e_z5 t_z5 => ?_)
  subst e_z5
  clear t_z5
  refine kw_tld (pc := 580) (i := 320) (k := 0) (n := L) (kl_a5 20 rfl) rfl (by omega) (by omega) (fun z6 e_z6 => ?_)
  subst e_z6
  refine kw_aload_n (pc := 581) (i := 321) (k := 3) (n := 0) (kl_a5 21 rfl) rfl rfl ?_
  refine kw_iload_n (pc := 582) (i := 322) (k := 0) (n := 3) (kl_a5 22 rfl) rfl rfl ?_
  refine kw_iconst (pc := 583) (i := 323) (v := 2) (kl_a5 23 rfl) rfl ?_
  refine kw_iadd (pc := 584) (i := 324) (kl_a5 24 rfl) (fun z7 e_z7 t_z7 => ?_)
  subst e_z7
  clear t_z7
  refine kw_tld (pc := 585) (i := 325) (k := 0) (n := L) (kl_a5 25 rfl) rfl (by omega) (by omega) (fun z8 e_z8 => ?_)
  subst e_z8
  refine kw_callM (pc := 586) (i := 326) (Y := mX8_line) (xs := [xs (x3 + 1).toNatClampNeg, xs (x3 + 2).toNatClampNeg]) (st := []) kl_hE (kl_a5 26 rfl) lvL_60 arX8_line (c_X8_line_0 l T (by omega) (by omega) (kw_sh 61 (kw_mixX σ sX)) (by rw [kw_sh_mixX]; exact hM) (xs (x3 + 1).toNatClampNeg) (xs (x3 + 2).toNatClampNeg) ) (by decide) (Nat.le_of_ble_eq_true rfl) rfl (fun _ _ q => by obtain ⟨-, r, rfl, -⟩ := q; exact fun _ _ => rfl) (fun v sM pM => ?_)
  obtain ⟨⟨IM, FM⟩, rM, rfl, eM⟩ := pM
  rw [kw_sh_mixX] at FM eM
  have AX : kw_I bX (kw_mixM (kw_mixX σ sX) sM) := kw_IX_mixM (kw_IX_mixX IX)
  have AM : kw_I (bM T) (kw_sh 61 (kw_mixM (kw_mixX σ sX) sM)) := by rw [kw_sh_mixM]; exact IM
  have Q := (show kr_R sX sM ∧ rX = rM from ⟨kr_R.fr hR FX FM (by decide) (by decide), kr_line hR.2.1 (xs (x3 + 1).toNatClampNeg) (xs (x3 + 2).toNatClampNeg) eX eM⟩)
  have AR : kr_R (kw_mixM (kw_mixX σ sX) sM) (kw_sh 61 (kw_mixM (kw_mixX σ sX) sM)) := by rw [kw_sh_mixM]; exact ⟨(Q.1).1.mix, (Q.1).2.1.mix, kr_D.mix (Q.1).2.1 (Q.1).2.2.1, (Q.1).2.2.2.mix⟩
  generalize (kw_mixM (kw_mixX σ sX) sM) = J at AX AM AR ⊢
  show kw_AW l 30 ((1002, L, xs) :: kw_E0) KJ mL_law kl_P 589 [(3, .int x3), (2, .ref 61), (1, .ref 0), (0, .ref 1002)] [.int rM] J
  refine kw_pop (pc := 589) (i := 327) (kl_a5 27 rfl) rfl ?_
  refine kw_goto (pc := 590) (i := 328) (tgt := 1359) (kl_a5 28 rfl) rfl ?_
  exact hnext J T AX AM AR (by omega) (by omega)
set_option maxRecDepth 100000 in
set_option maxHeartbeats 4000000 in
theorem kl_case11 (l : Launch) (L : Nat) (xs : Nat → Int32) (hL : L ≤ 384) (x3 : Int32) (h0 : 0 ≤ x3.toInt) (h1 : x3.toInt + 6 ≤ L) (σ : kw_S) (T : Int) (hX : kw_I bX σ) (hM : kw_I (bM T) (kw_sh 61 σ)) (hR : kr_R σ (kw_sh 61 σ)) (hT0 : 0 ≤ T) (hT1 : T ≤ 2000) (hnext : ∀ (S : kw_S) (T' : Int), kw_I bX S → kw_I (bM T') (kw_sh 61 S) → kr_R S (kw_sh 61 S) → 0 ≤ T' → T' ≤ T + 20 → kw_AW l 30 ((1002, L, xs) :: kw_E0) KJ mL_law kl_P 1359 [(3, .int x3), (2, .ref 61), (1, .ref 0), (0, .ref 1002)] [] S) : kw_AW l 30 ((1002, L, xs) :: kw_E0) KJ mL_law kl_P 593 [(3, .int x3), (2, .ref 61), (1, .ref 0), (0, .ref 1002)] [] σ := by
  have u1 : (x3 + 1).toInt = x3.toInt + 1 := by rw [kw_addI, show (1 : Int32).toInt = 1 from rfl]; omega
  have u2 : (x3 + 2).toInt = x3.toInt + 2 := by rw [kw_addI, show (2 : Int32).toInt = 2 from rfl]; omega
  have u3 : (x3 + 3).toInt = x3.toInt + 3 := by rw [kw_addI, show (3 : Int32).toInt = 3 from rfl]; omega
  have u4 : (x3 + 4).toInt = x3.toInt + 4 := by rw [kw_addI, show (4 : Int32).toInt = 4 from rfl]; omega
  have u5 : (x3 + 5).toInt = x3.toInt + 5 := by rw [kw_addI, show (5 : Int32).toInt = 5 from rfl]; omega
  refine kw_aload_n (pc := 593) (i := 329) (k := 2) (n := 1) (kl_a5 29 rfl) rfl rfl ?_
  refine kw_aload_n (pc := 594) (i := 330) (k := 3) (n := 0) (kl_a5 30 rfl) rfl rfl ?_
  refine kw_iload_n (pc := 595) (i := 331) (k := 0) (n := 3) (kl_a5 31 rfl) rfl rfl ?_
  refine kw_iconst (pc := 596) (i := 332) (v := 1) (kl_a5 32 rfl) rfl ?_
  refine kw_iadd (pc := 597) (i := 333) (kl_a5 33 rfl) (fun z1 e_z1 t_z1 => ?_)
  subst e_z1
  clear t_z1
  refine kw_tld (pc := 598) (i := 334) (k := 0) (n := L) (kl_a5 34 rfl) rfl (by omega) (by omega) (fun z2 e_z2 => ?_)
  subst e_z2
  refine kw_aload_n (pc := 599) (i := 335) (k := 3) (n := 0) (kl_a5 35 rfl) rfl rfl ?_
  refine kw_iload_n (pc := 600) (i := 336) (k := 0) (n := 3) (kl_a5 36 rfl) rfl rfl ?_
  refine kw_iconst (pc := 601) (i := 337) (v := 2) (kl_a5 37 rfl) rfl ?_
  refine kw_iadd (pc := 602) (i := 338) (kl_a5 38 rfl) (fun z3 e_z3 t_z3 => ?_)
  subst e_z3
  clear t_z3
  refine kw_tld (pc := 603) (i := 339) (k := 0) (n := L) (kl_a5 39 rfl) rfl (by omega) (by omega) (fun z4 e_z4 => ?_)
  subst e_z4
  refine kw_callX (pc := 604) (i := 340) (Y := mX7_mark) (xs := [xs (x3 + 1).toNatClampNeg, xs (x3 + 2).toNatClampNeg]) (st := []) kl_hE (kl_a5 40 rfl) lvL_61 arX7_mark (c_X7_mark_0 l σ hX (xs (x3 + 1).toNatClampNeg) (xs (x3 + 2).toNatClampNeg) ) (by decide) (Nat.le_of_ble_eq_true rfl) rfl (fun v sX pX => ?_)
  obtain ⟨⟨IX, FX⟩, rX, rfl, eX⟩ := pX
  show kw_AW l 30 ((1002, L, xs) :: kw_E0) KJ mL_law kl_P 607 [(3, .int x3), (2, .ref 61), (1, .ref 0), (0, .ref 1002)] [.int rX] (kw_mixX σ sX)
  refine kw_pop (pc := 607) (i := 341) (kl_a5 41 rfl) rfl ?_
  refine kw_aload_n (pc := 608) (i := 342) (k := 1) (n := 2) (kl_a5 42 rfl) rfl rfl ?_
  refine kw_aload_n (pc := 609) (i := 343) (k := 3) (n := 0) (kl_a5 43 rfl) rfl rfl ?_
  refine kw_iload_n (pc := 610) (i := 344) (k := 0) (n := 3) (kl_a5 44 rfl) rfl rfl ?_
  refine kw_iconst (pc := 611) (i := 345) (v := 1) (kl_a5 45 rfl) rfl ?_
  refine kw_iadd (pc := 612) (i := 346) (kl_a5 46 rfl) (fun z5 e_z5 t_z5 => ?_)
  subst e_z5
  clear t_z5
  refine kw_tld (pc := 613) (i := 347) (k := 0) (n := L) (kl_a5 47 rfl) rfl (by omega) (by omega) (fun z6 e_z6 => ?_)
  subst e_z6
  refine kw_aload_n (pc := 614) (i := 348) (k := 3) (n := 0) (kl_a5 48 rfl) rfl rfl ?_
  refine kw_iload_n (pc := 615) (i := 349) (k := 0) (n := 3) (kl_a5 49 rfl) rfl rfl ?_
  refine kw_iconst (pc := 616) (i := 350) (v := 2) (kl_a5 50 rfl) rfl ?_
  refine kw_iadd (pc := 617) (i := 351) (kl_a5 51 rfl) (fun z7 e_z7 t_z7 => ?_)
  subst e_z7
  clear t_z7
  refine kw_tld (pc := 618) (i := 352) (k := 0) (n := L) (kl_a5 52 rfl) rfl (by omega) (by omega) (fun z8 e_z8 => ?_)
  subst e_z8
  refine kw_callM (pc := 619) (i := 353) (Y := mX8_mark) (xs := [xs (x3 + 1).toNatClampNeg, xs (x3 + 2).toNatClampNeg]) (st := []) kl_hE (kl_a5 53 rfl) lvL_64 arX8_mark (c_X8_mark_0 l T (by omega) (by omega) (kw_sh 61 (kw_mixX σ sX)) (by rw [kw_sh_mixX]; exact hM) (xs (x3 + 1).toNatClampNeg) (xs (x3 + 2).toNatClampNeg) ) (by decide) (Nat.le_of_ble_eq_true rfl) rfl (fun _ _ q => by obtain ⟨-, r, rfl, -⟩ := q; exact fun _ _ => rfl) (fun v sM pM => ?_)
  obtain ⟨⟨IM, FM⟩, rM, rfl, eM⟩ := pM
  rw [kw_sh_mixX] at FM eM
  have AX : kw_I bX (kw_mixM (kw_mixX σ sX) sM) := kw_IX_mixM (kw_IX_mixX IX)
  have AM : kw_I (bM T) (kw_sh 61 (kw_mixM (kw_mixX σ sX) sM)) := by rw [kw_sh_mixM]; exact IM
  have Q := (show kr_R sX sM ∧ rX = rM from ⟨kr_R.fr hR FX FM (by decide) (by decide), kr_mark hR.2.1 hR.2.2.1 (xs (x3 + 1).toNatClampNeg) (xs (x3 + 2).toNatClampNeg) eX eM⟩)
  have AR : kr_R (kw_mixM (kw_mixX σ sX) sM) (kw_sh 61 (kw_mixM (kw_mixX σ sX) sM)) := by rw [kw_sh_mixM]; exact ⟨(Q.1).1.mix, (Q.1).2.1.mix, kr_D.mix (Q.1).2.1 (Q.1).2.2.1, (Q.1).2.2.2.mix⟩
  generalize (kw_mixM (kw_mixX σ sX) sM) = J at AX AM AR ⊢
  show kw_AW l 30 ((1002, L, xs) :: kw_E0) KJ mL_law kl_P 622 [(3, .int x3), (2, .ref 61), (1, .ref 0), (0, .ref 1002)] [.int rM] J
  refine kw_pop (pc := 622) (i := 354) (kl_a5 54 rfl) rfl ?_
  refine kw_goto (pc := 623) (i := 355) (tgt := 1359) (kl_a5 55 rfl) rfl ?_
  exact hnext J T AX AM AR (by omega) (by omega)
set_option maxRecDepth 100000 in
set_option maxHeartbeats 4000000 in
theorem kl_case12 (l : Launch) (L : Nat) (xs : Nat → Int32) (hL : L ≤ 384) (x3 : Int32) (h0 : 0 ≤ x3.toInt) (h1 : x3.toInt + 6 ≤ L) (σ : kw_S) (T : Int) (hX : kw_I bX σ) (hM : kw_I (bM T) (kw_sh 61 σ)) (hR : kr_R σ (kw_sh 61 σ)) (hT0 : 0 ≤ T) (hT1 : T ≤ 2000) (hnext : ∀ (S : kw_S) (T' : Int), kw_I bX S → kw_I (bM T') (kw_sh 61 S) → kr_R S (kw_sh 61 S) → 0 ≤ T' → T' ≤ T + 20 → kw_AW l 30 ((1002, L, xs) :: kw_E0) KJ mL_law kl_P 1359 [(3, .int x3), (2, .ref 61), (1, .ref 0), (0, .ref 1002)] [] S) : kw_AW l 30 ((1002, L, xs) :: kw_E0) KJ mL_law kl_P 626 [(3, .int x3), (2, .ref 61), (1, .ref 0), (0, .ref 1002)] [] σ := by
  have u1 : (x3 + 1).toInt = x3.toInt + 1 := by rw [kw_addI, show (1 : Int32).toInt = 1 from rfl]; omega
  have u2 : (x3 + 2).toInt = x3.toInt + 2 := by rw [kw_addI, show (2 : Int32).toInt = 2 from rfl]; omega
  have u3 : (x3 + 3).toInt = x3.toInt + 3 := by rw [kw_addI, show (3 : Int32).toInt = 3 from rfl]; omega
  have u4 : (x3 + 4).toInt = x3.toInt + 4 := by rw [kw_addI, show (4 : Int32).toInt = 4 from rfl]; omega
  have u5 : (x3 + 5).toInt = x3.toInt + 5 := by rw [kw_addI, show (5 : Int32).toInt = 5 from rfl]; omega
  refine kw_aload_n (pc := 626) (i := 356) (k := 2) (n := 1) (kl_a5 56 rfl) rfl rfl ?_
  refine kw_aload_n (pc := 627) (i := 357) (k := 3) (n := 0) (kl_a5 57 rfl) rfl rfl ?_
  refine kw_iload_n (pc := 628) (i := 358) (k := 0) (n := 3) (kl_a5 58 rfl) rfl rfl ?_
  refine kw_iconst (pc := 629) (i := 359) (v := 1) (kl_a5 59 rfl) rfl ?_
  refine kw_iadd (pc := 630) (i := 360) (kl_a6 0 rfl) (fun z1 e_z1 t_z1 => ?_)
  subst e_z1
  clear t_z1
  refine kw_tld (pc := 631) (i := 361) (k := 0) (n := L) (kl_a6 1 rfl) rfl (by omega) (by omega) (fun z2 e_z2 => ?_)
  subst e_z2
  refine kw_callX (pc := 632) (i := 362) (Y := mX7_wind) (xs := [xs (x3 + 1).toNatClampNeg]) (st := []) kl_hE (kl_a6 2 rfl) lvL_65 arX7_wind (c_X7_wind_0 l σ hX (xs (x3 + 1).toNatClampNeg) ) (by decide) (Nat.le_of_ble_eq_true rfl) rfl (fun v sX pX => ?_)
  obtain ⟨gX, rX, rfl, eX⟩ := pX
  have IX : kw_I bX sX := by rw [gX]; exact hX
  have FX : kw_F [] σ sX := by rw [gX]; exact kw_F.rf
  show kw_AW l 30 ((1002, L, xs) :: kw_E0) KJ mL_law kl_P 635 [(3, .int x3), (2, .ref 61), (1, .ref 0), (0, .ref 1002)] [.int rX] (kw_mixX σ sX)
  refine kw_pop (pc := 635) (i := 363) (kl_a6 3 rfl) rfl ?_
  refine kw_aload_n (pc := 636) (i := 364) (k := 1) (n := 2) (kl_a6 4 rfl) rfl rfl ?_
  refine kw_aload_n (pc := 637) (i := 365) (k := 3) (n := 0) (kl_a6 5 rfl) rfl rfl ?_
  refine kw_iload_n (pc := 638) (i := 366) (k := 0) (n := 3) (kl_a6 6 rfl) rfl rfl ?_
  refine kw_iconst (pc := 639) (i := 367) (v := 1) (kl_a6 7 rfl) rfl ?_
  refine kw_iadd (pc := 640) (i := 368) (kl_a6 8 rfl) (fun z3 e_z3 t_z3 => ?_)
  subst e_z3
  clear t_z3
  refine kw_tld (pc := 641) (i := 369) (k := 0) (n := L) (kl_a6 9 rfl) rfl (by omega) (by omega) (fun z4 e_z4 => ?_)
  subst e_z4
  refine kw_callM (pc := 642) (i := 370) (Y := mX8_wind) (xs := [xs (x3 + 1).toNatClampNeg]) (st := []) kl_hE (kl_a6 10 rfl) lvL_68 arX8_wind (c_X8_wind_0 l T (by omega) (by omega) (kw_sh 61 (kw_mixX σ sX)) (by rw [kw_sh_mixX]; exact hM) (xs (x3 + 1).toNatClampNeg) ) (by decide) (Nat.le_of_ble_eq_true rfl) rfl (fun _ _ q => by obtain ⟨-, r, rfl, -⟩ := q; exact fun _ _ => rfl) (fun v sM pM => ?_)
  obtain ⟨gM, rM, rfl, eM⟩ := pM
  rw [kw_sh_mixX] at gM eM
  have IM : kw_I (bM T) sM := by rw [gM]; exact hM
  have FM : kw_FM [] (kw_sh 61 σ) sM := by rw [gM]; exact kw_FM.rf
  have AX : kw_I bX (kw_mixM (kw_mixX σ sX) sM) := kw_IX_mixM (kw_IX_mixX IX)
  have AM : kw_I (bM T) (kw_sh 61 (kw_mixM (kw_mixX σ sX) sM)) := by rw [kw_sh_mixM]; exact IM
  have Q := (show kr_R sX sM ∧ rX = rM from ⟨kr_R.fr hR FX FM (by decide) (by decide), kr_wind hR.2.1 (xs (x3 + 1).toNatClampNeg) eX eM⟩)
  have AR : kr_R (kw_mixM (kw_mixX σ sX) sM) (kw_sh 61 (kw_mixM (kw_mixX σ sX) sM)) := by rw [kw_sh_mixM]; exact ⟨(Q.1).1.mix, (Q.1).2.1.mix, kr_D.mix (Q.1).2.1 (Q.1).2.2.1, (Q.1).2.2.2.mix⟩
  generalize (kw_mixM (kw_mixX σ sX) sM) = J at AX AM AR ⊢
  show kw_AW l 30 ((1002, L, xs) :: kw_E0) KJ mL_law kl_P 645 [(3, .int x3), (2, .ref 61), (1, .ref 0), (0, .ref 1002)] [.int rM] J
  refine kw_pop (pc := 645) (i := 371) (kl_a6 11 rfl) rfl ?_
  refine kw_goto (pc := 646) (i := 372) (tgt := 1359) (kl_a6 12 rfl) rfl ?_
  exact hnext J T AX AM AR (by omega) (by omega)
set_option maxRecDepth 100000 in
set_option maxHeartbeats 4000000 in
theorem kl_case13 (l : Launch) (L : Nat) (xs : Nat → Int32) (hL : L ≤ 384) (x3 : Int32) (h0 : 0 ≤ x3.toInt) (h1 : x3.toInt + 6 ≤ L) (σ : kw_S) (T : Int) (hX : kw_I bX σ) (hM : kw_I (bM T) (kw_sh 61 σ)) (hR : kr_R σ (kw_sh 61 σ)) (hT0 : 0 ≤ T) (hT1 : T ≤ 2000) (hnext : ∀ (S : kw_S) (T' : Int), kw_I bX S → kw_I (bM T') (kw_sh 61 S) → kr_R S (kw_sh 61 S) → 0 ≤ T' → T' ≤ T + 20 → kw_AW l 30 ((1002, L, xs) :: kw_E0) KJ mL_law kl_P 1359 [(3, .int x3), (2, .ref 61), (1, .ref 0), (0, .ref 1002)] [] S) : kw_AW l 30 ((1002, L, xs) :: kw_E0) KJ mL_law kl_P 649 [(3, .int x3), (2, .ref 61), (1, .ref 0), (0, .ref 1002)] [] σ := by
  have u1 : (x3 + 1).toInt = x3.toInt + 1 := by rw [kw_addI, show (1 : Int32).toInt = 1 from rfl]; omega
  have u2 : (x3 + 2).toInt = x3.toInt + 2 := by rw [kw_addI, show (2 : Int32).toInt = 2 from rfl]; omega
  have u3 : (x3 + 3).toInt = x3.toInt + 3 := by rw [kw_addI, show (3 : Int32).toInt = 3 from rfl]; omega
  have u4 : (x3 + 4).toInt = x3.toInt + 4 := by rw [kw_addI, show (4 : Int32).toInt = 4 from rfl]; omega
  have u5 : (x3 + 5).toInt = x3.toInt + 5 := by rw [kw_addI, show (5 : Int32).toInt = 5 from rfl]; omega
  refine kw_aload_n (pc := 649) (i := 373) (k := 2) (n := 1) (kl_a6 13 rfl) rfl rfl ?_
  refine kw_aload_n (pc := 650) (i := 374) (k := 3) (n := 0) (kl_a6 14 rfl) rfl rfl ?_
  refine kw_iload_n (pc := 651) (i := 375) (k := 0) (n := 3) (kl_a6 15 rfl) rfl rfl ?_
  refine kw_iconst (pc := 652) (i := 376) (v := 1) (kl_a6 16 rfl) rfl ?_
  refine kw_iadd (pc := 653) (i := 377) (kl_a6 17 rfl) (fun z1 e_z1 t_z1 => ?_)
  subst e_z1
  clear t_z1
  refine kw_tld (pc := 654) (i := 378) (k := 0) (n := L) (kl_a6 18 rfl) rfl (by omega) (by omega) (fun z2 e_z2 => ?_)
  subst e_z2
  refine kw_callX (pc := 655) (i := 379) (Y := mX7_hang) (xs := [xs (x3 + 1).toNatClampNeg]) (st := []) kl_hE (kl_a6 19 rfl) lvL_69 arX7_hang (c_X7_hang_0 l σ hX (xs (x3 + 1).toNatClampNeg) ) (by decide) (Nat.le_of_ble_eq_true rfl) rfl (fun v sX pX => ?_)
  obtain ⟨⟨IX, FX⟩, rX, rfl, eX⟩ := pX
  show kw_AW l 30 ((1002, L, xs) :: kw_E0) KJ mL_law kl_P 658 [(3, .int x3), (2, .ref 61), (1, .ref 0), (0, .ref 1002)] [.int rX] (kw_mixX σ sX)
  refine kw_pop (pc := 658) (i := 380) (kl_a6 20 rfl) rfl ?_
  refine kw_aload_n (pc := 659) (i := 381) (k := 1) (n := 2) (kl_a6 21 rfl) rfl rfl ?_
  refine kw_aload_n (pc := 660) (i := 382) (k := 3) (n := 0) (kl_a6 22 rfl) rfl rfl ?_
  refine kw_iload_n (pc := 661) (i := 383) (k := 0) (n := 3) (kl_a6 23 rfl) rfl rfl ?_
  refine kw_iconst (pc := 662) (i := 384) (v := 1) (kl_a6 24 rfl) rfl ?_
  refine kw_iadd (pc := 663) (i := 385) (kl_a6 25 rfl) (fun z3 e_z3 t_z3 => ?_)
  subst e_z3
  clear t_z3
  refine kw_tld (pc := 664) (i := 386) (k := 0) (n := L) (kl_a6 26 rfl) rfl (by omega) (by omega) (fun z4 e_z4 => ?_)
  subst e_z4
  refine kw_callM (pc := 665) (i := 387) (Y := mX8_hang) (xs := [xs (x3 + 1).toNatClampNeg]) (st := []) kl_hE (kl_a6 27 rfl) lvL_72 arX8_hang (c_X8_hang_0 l T (by omega) (by omega) (kw_sh 61 (kw_mixX σ sX)) (by rw [kw_sh_mixX]; exact hM) (xs (x3 + 1).toNatClampNeg) ) (by decide) (Nat.le_of_ble_eq_true rfl) rfl (fun _ _ q => by obtain ⟨-, r, rfl, -⟩ := q; exact fun _ _ => rfl) (fun v sM pM => ?_)
  obtain ⟨⟨IM, FM⟩, rM, rfl, eM⟩ := pM
  rw [kw_sh_mixX] at FM eM
  have AX : kw_I bX (kw_mixM (kw_mixX σ sX) sM) := kw_IX_mixM (kw_IX_mixX IX)
  have AM : kw_I (bM T) (kw_sh 61 (kw_mixM (kw_mixX σ sX) sM)) := by rw [kw_sh_mixM]; exact IM
  have Q := (show kr_R sX sM ∧ rX = rM from ⟨⟨hR.1.fr FX FM (by decide) (by decide), hR.2.1.fr FX FM (by decide) (by decide), (kr_hang hR.2.1 hR.2.2.1 (xs (x3 + 1).toNatClampNeg) eX eM).1, hR.2.2.2.fr FX FM (by decide) (by decide)⟩, (kr_hang hR.2.1 hR.2.2.1 (xs (x3 + 1).toNatClampNeg) eX eM).2⟩)
  have AR : kr_R (kw_mixM (kw_mixX σ sX) sM) (kw_sh 61 (kw_mixM (kw_mixX σ sX) sM)) := by rw [kw_sh_mixM]; exact ⟨(Q.1).1.mix, (Q.1).2.1.mix, kr_D.mix (Q.1).2.1 (Q.1).2.2.1, (Q.1).2.2.2.mix⟩
  generalize (kw_mixM (kw_mixX σ sX) sM) = J at AX AM AR ⊢
  show kw_AW l 30 ((1002, L, xs) :: kw_E0) KJ mL_law kl_P 668 [(3, .int x3), (2, .ref 61), (1, .ref 0), (0, .ref 1002)] [.int rM] J
  refine kw_pop (pc := 668) (i := 388) (kl_a6 28 rfl) rfl ?_
  refine kw_goto (pc := 669) (i := 389) (tgt := 1359) (kl_a6 29 rfl) rfl ?_
  exact hnext J T AX AM AR (by omega) (by omega)
set_option maxRecDepth 100000 in
set_option maxHeartbeats 4000000 in
theorem kl_case14 (l : Launch) (L : Nat) (xs : Nat → Int32) (hL : L ≤ 384) (x3 : Int32) (h0 : 0 ≤ x3.toInt) (h1 : x3.toInt + 6 ≤ L) (σ : kw_S) (T : Int) (hX : kw_I bX σ) (hM : kw_I (bM T) (kw_sh 61 σ)) (hR : kr_R σ (kw_sh 61 σ)) (hT0 : 0 ≤ T) (hT1 : T ≤ 2000) (hnext : ∀ (S : kw_S) (T' : Int), kw_I bX S → kw_I (bM T') (kw_sh 61 S) → kr_R S (kw_sh 61 S) → 0 ≤ T' → T' ≤ T + 20 → kw_AW l 30 ((1002, L, xs) :: kw_E0) KJ mL_law kl_P 1359 [(3, .int x3), (2, .ref 61), (1, .ref 0), (0, .ref 1002)] [] S) : kw_AW l 30 ((1002, L, xs) :: kw_E0) KJ mL_law kl_P 672 [(3, .int x3), (2, .ref 61), (1, .ref 0), (0, .ref 1002)] [] σ := by
  have u1 : (x3 + 1).toInt = x3.toInt + 1 := by rw [kw_addI, show (1 : Int32).toInt = 1 from rfl]; omega
  have u2 : (x3 + 2).toInt = x3.toInt + 2 := by rw [kw_addI, show (2 : Int32).toInt = 2 from rfl]; omega
  have u3 : (x3 + 3).toInt = x3.toInt + 3 := by rw [kw_addI, show (3 : Int32).toInt = 3 from rfl]; omega
  have u4 : (x3 + 4).toInt = x3.toInt + 4 := by rw [kw_addI, show (4 : Int32).toInt = 4 from rfl]; omega
  have u5 : (x3 + 5).toInt = x3.toInt + 5 := by rw [kw_addI, show (5 : Int32).toInt = 5 from rfl]; omega
  refine kw_aload_n (pc := 672) (i := 390) (k := 2) (n := 1) (kl_a6 30 rfl) rfl rfl ?_
  refine kw_aload_n (pc := 673) (i := 391) (k := 3) (n := 0) (kl_a6 31 rfl) rfl rfl ?_
  refine kw_iload_n (pc := 674) (i := 392) (k := 0) (n := 3) (kl_a6 32 rfl) rfl rfl ?_
  refine kw_iconst (pc := 675) (i := 393) (v := 1) (kl_a6 33 rfl) rfl ?_
  refine kw_iadd (pc := 676) (i := 394) (kl_a6 34 rfl) (fun z1 e_z1 t_z1 => ?_)
  subst e_z1
  clear t_z1
  refine kw_tld (pc := 677) (i := 395) (k := 0) (n := L) (kl_a6 35 rfl) rfl (by omega) (by omega) (fun z2 e_z2 => ?_)
  subst e_z2
  refine kw_callX (pc := 678) (i := 396) (Y := mX7_take) (xs := [xs (x3 + 1).toNatClampNeg]) (st := []) kl_hE (kl_a6 36 rfl) lvL_73 arX7_take (c_X7_take_0 l σ hX (xs (x3 + 1).toNatClampNeg) ) (by decide) (Nat.le_of_ble_eq_true rfl) rfl (fun v sX pX => ?_)
  obtain ⟨⟨IX, FX⟩, rX, rfl, eX⟩ := pX
  show kw_AW l 30 ((1002, L, xs) :: kw_E0) KJ mL_law kl_P 681 [(3, .int x3), (2, .ref 61), (1, .ref 0), (0, .ref 1002)] [.int rX] (kw_mixX σ sX)
  refine kw_pop (pc := 681) (i := 397) (kl_a6 37 rfl) rfl ?_
  refine kw_aload_n (pc := 682) (i := 398) (k := 1) (n := 2) (kl_a6 38 rfl) rfl rfl ?_
  refine kw_aload_n (pc := 683) (i := 399) (k := 3) (n := 0) (kl_a6 39 rfl) rfl rfl ?_
  refine kw_iload_n (pc := 684) (i := 400) (k := 0) (n := 3) (kl_a6 40 rfl) rfl rfl ?_
  refine kw_iconst (pc := 685) (i := 401) (v := 1) (kl_a6 41 rfl) rfl ?_
  refine kw_iadd (pc := 686) (i := 402) (kl_a6 42 rfl) (fun z3 e_z3 t_z3 => ?_)
  subst e_z3
  clear t_z3
  refine kw_tld (pc := 687) (i := 403) (k := 0) (n := L) (kl_a6 43 rfl) rfl (by omega) (by omega) (fun z4 e_z4 => ?_)
  subst e_z4
  refine kw_callM (pc := 688) (i := 404) (Y := mX8_take) (xs := [xs (x3 + 1).toNatClampNeg]) (st := []) kl_hE (kl_a6 44 rfl) lvL_76 arX8_take (c_X8_take_0 l T (by omega) (by omega) (kw_sh 61 (kw_mixX σ sX)) (by rw [kw_sh_mixX]; exact hM) (xs (x3 + 1).toNatClampNeg) ) (by decide) (Nat.le_of_ble_eq_true rfl) rfl (fun _ _ q => by obtain ⟨-, r, rfl, -⟩ := q; exact fun _ _ => rfl) (fun v sM pM => ?_)
  obtain ⟨⟨IM, FM⟩, rM, rfl, eM⟩ := pM
  rw [kw_sh_mixX] at FM eM
  have AX : kw_I bX (kw_mixM (kw_mixX σ sX) sM) := kw_IX_mixM (kw_IX_mixX IX)
  have AM : kw_I (bM T) (kw_sh 61 (kw_mixM (kw_mixX σ sX) sM)) := by rw [kw_sh_mixM]; exact IM
  have Q := (show kr_R sX sM ∧ rX = rM from ⟨⟨hR.1.fr FX FM (by decide) (by decide), hR.2.1.fr FX FM (by decide) (by decide), (kr_take hR.2.1 hR.2.2.1 (xs (x3 + 1).toNatClampNeg) eX eM).1, hR.2.2.2.fr FX FM (by decide) (by decide)⟩, (kr_take hR.2.1 hR.2.2.1 (xs (x3 + 1).toNatClampNeg) eX eM).2⟩)
  have AR : kr_R (kw_mixM (kw_mixX σ sX) sM) (kw_sh 61 (kw_mixM (kw_mixX σ sX) sM)) := by rw [kw_sh_mixM]; exact ⟨(Q.1).1.mix, (Q.1).2.1.mix, kr_D.mix (Q.1).2.1 (Q.1).2.2.1, (Q.1).2.2.2.mix⟩
  generalize (kw_mixM (kw_mixX σ sX) sM) = J at AX AM AR ⊢
  show kw_AW l 30 ((1002, L, xs) :: kw_E0) KJ mL_law kl_P 691 [(3, .int x3), (2, .ref 61), (1, .ref 0), (0, .ref 1002)] [.int rM] J
  refine kw_pop (pc := 691) (i := 405) (kl_a6 45 rfl) rfl ?_
  refine kw_goto (pc := 692) (i := 406) (tgt := 1359) (kl_a6 46 rfl) rfl ?_
  exact hnext J T AX AM AR (by omega) (by omega)
set_option maxRecDepth 100000 in
set_option maxHeartbeats 4000000 in
theorem kl_case15 (l : Launch) (L : Nat) (xs : Nat → Int32) (hL : L ≤ 384) (x3 : Int32) (h0 : 0 ≤ x3.toInt) (h1 : x3.toInt + 6 ≤ L) (σ : kw_S) (T : Int) (hX : kw_I bX σ) (hM : kw_I (bM T) (kw_sh 61 σ)) (hR : kr_R σ (kw_sh 61 σ)) (hT0 : 0 ≤ T) (hT1 : T ≤ 2000) (hnext : ∀ (S : kw_S) (T' : Int), kw_I bX S → kw_I (bM T') (kw_sh 61 S) → kr_R S (kw_sh 61 S) → 0 ≤ T' → T' ≤ T + 20 → kw_AW l 30 ((1002, L, xs) :: kw_E0) KJ mL_law kl_P 1359 [(3, .int x3), (2, .ref 61), (1, .ref 0), (0, .ref 1002)] [] S) : kw_AW l 30 ((1002, L, xs) :: kw_E0) KJ mL_law kl_P 695 [(3, .int x3), (2, .ref 61), (1, .ref 0), (0, .ref 1002)] [] σ := by
  have u1 : (x3 + 1).toInt = x3.toInt + 1 := by rw [kw_addI, show (1 : Int32).toInt = 1 from rfl]; omega
  have u2 : (x3 + 2).toInt = x3.toInt + 2 := by rw [kw_addI, show (2 : Int32).toInt = 2 from rfl]; omega
  have u3 : (x3 + 3).toInt = x3.toInt + 3 := by rw [kw_addI, show (3 : Int32).toInt = 3 from rfl]; omega
  have u4 : (x3 + 4).toInt = x3.toInt + 4 := by rw [kw_addI, show (4 : Int32).toInt = 4 from rfl]; omega
  have u5 : (x3 + 5).toInt = x3.toInt + 5 := by rw [kw_addI, show (5 : Int32).toInt = 5 from rfl]; omega
  refine kw_aload_n (pc := 695) (i := 407) (k := 2) (n := 1) (kl_a6 47 rfl) rfl rfl ?_
  refine kw_callX (pc := 696) (i := 408) (Y := mX7_hour) (xs := []) (st := []) kl_hE (kl_a6 48 rfl) lvL_77 arX7_hour (c_X7_hour_0 l σ hX  ) (by decide) (Nat.le_of_ble_eq_true rfl) rfl (fun v sX pX => ?_)
  obtain ⟨⟨IX, FX⟩, rX, rfl, eX⟩ := pX
  show kw_AW l 30 ((1002, L, xs) :: kw_E0) KJ mL_law kl_P 699 [(3, .int x3), (2, .ref 61), (1, .ref 0), (0, .ref 1002)] [.int rX] (kw_mixX σ sX)
  refine kw_pop (pc := 699) (i := 409) (kl_a6 49 rfl) rfl ?_
  refine kw_aload_n (pc := 700) (i := 410) (k := 1) (n := 2) (kl_a6 50 rfl) rfl rfl ?_
  refine kw_callM (pc := 701) (i := 411) (Y := mX8_hour) (xs := []) (st := []) kl_hE (kl_a6 51 rfl) lvL_81 arX8_hour (c_X8_hour_0 l T (by omega) (by omega) (kw_sh 61 (kw_mixX σ sX)) (by rw [kw_sh_mixX]; exact hM)  (by omega)) (by decide) (Nat.le_of_ble_eq_true rfl) rfl (fun _ _ q => by obtain ⟨-, r, rfl, -⟩ := q; exact fun _ _ => rfl) (fun v sM pM => ?_)
  obtain ⟨⟨IM, FM⟩, rM, rfl, eM⟩ := pM
  rw [kw_sh_mixX] at FM eM
  have AX : kw_I bX (kw_mixM (kw_mixX σ sX) sM) := kw_IX_mixM (kw_IX_mixX IX)
  have AM : kw_I (bM (T + 1)) (kw_sh 61 (kw_mixM (kw_mixX σ sX) sM)) := by rw [kw_sh_mixM]; exact IM
  have Q := (show kr_R sX sM ∧ rX = rM from ⟨⟨hR.1.fr FX FM (by decide) (by decide), hR.2.1.fr FX FM (by decide) (by decide), (kr_hour hR.2.1 hR.2.2.1  eX eM).1, hR.2.2.2.fr FX FM (by decide) (by decide)⟩, (kr_hour hR.2.1 hR.2.2.1  eX eM).2⟩)
  have AR : kr_R (kw_mixM (kw_mixX σ sX) sM) (kw_sh 61 (kw_mixM (kw_mixX σ sX) sM)) := by rw [kw_sh_mixM]; exact ⟨(Q.1).1.mix, (Q.1).2.1.mix, kr_D.mix (Q.1).2.1 (Q.1).2.2.1, (Q.1).2.2.2.mix⟩
  generalize (kw_mixM (kw_mixX σ sX) sM) = J at AX AM AR ⊢
  show kw_AW l 30 ((1002, L, xs) :: kw_E0) KJ mL_law kl_P 704 [(3, .int x3), (2, .ref 61), (1, .ref 0), (0, .ref 1002)] [.int rM] J
  refine kw_pop (pc := 704) (i := 412) (kl_a6 52 rfl) rfl ?_
  refine kw_goto (pc := 705) (i := 413) (tgt := 1359) (kl_a6 53 rfl) rfl ?_
  exact hnext J (T + 1) AX AM AR (by omega) (by omega)
set_option maxRecDepth 100000 in
set_option maxHeartbeats 4000000 in
theorem kl_case16 (l : Launch) (L : Nat) (xs : Nat → Int32) (hL : L ≤ 384) (x3 : Int32) (h0 : 0 ≤ x3.toInt) (h1 : x3.toInt + 6 ≤ L) (σ : kw_S) (T : Int) (hX : kw_I bX σ) (hM : kw_I (bM T) (kw_sh 61 σ)) (hR : kr_R σ (kw_sh 61 σ)) (hT0 : 0 ≤ T) (hT1 : T ≤ 2000) (hnext : ∀ (S : kw_S) (T' : Int), kw_I bX S → kw_I (bM T') (kw_sh 61 S) → kr_R S (kw_sh 61 S) → 0 ≤ T' → T' ≤ T + 20 → kw_AW l 30 ((1002, L, xs) :: kw_E0) KJ mL_law kl_P 1359 [(3, .int x3), (2, .ref 61), (1, .ref 0), (0, .ref 1002)] [] S) : kw_AW l 30 ((1002, L, xs) :: kw_E0) KJ mL_law kl_P 708 [(3, .int x3), (2, .ref 61), (1, .ref 0), (0, .ref 1002)] [] σ := by
  have u1 : (x3 + 1).toInt = x3.toInt + 1 := by rw [kw_addI, show (1 : Int32).toInt = 1 from rfl]; omega
  have u2 : (x3 + 2).toInt = x3.toInt + 2 := by rw [kw_addI, show (2 : Int32).toInt = 2 from rfl]; omega
  have u3 : (x3 + 3).toInt = x3.toInt + 3 := by rw [kw_addI, show (3 : Int32).toInt = 3 from rfl]; omega
  have u4 : (x3 + 4).toInt = x3.toInt + 4 := by rw [kw_addI, show (4 : Int32).toInt = 4 from rfl]; omega
  have u5 : (x3 + 5).toInt = x3.toInt + 5 := by rw [kw_addI, show (5 : Int32).toInt = 5 from rfl]; omega
  refine kw_aload_n (pc := 708) (i := 414) (k := 2) (n := 1) (kl_a6 54 rfl) rfl rfl ?_
  refine kw_aload_n (pc := 709) (i := 415) (k := 3) (n := 0) (kl_a6 55 rfl) rfl rfl ?_
  refine kw_iload_n (pc := 710) (i := 416) (k := 0) (n := 3) (kl_a6 56 rfl) rfl rfl ?_
  refine kw_iconst (pc := 711) (i := 417) (v := 1) (kl_a6 57 rfl) rfl ?_
  refine kw_iadd (pc := 712) (i := 418) (kl_a6 58 rfl) (fun z1 e_z1 t_z1 => ?_)
  subst e_z1
  clear t_z1
  refine kw_tld (pc := 713) (i := 419) (k := 0) (n := L) (kl_a6 59 rfl) rfl (by omega) (by omega) (fun z2 e_z2 => ?_)
  subst e_z2
  refine kw_callX (pc := 714) (i := 420) (Y := mX7_undo) (xs := [xs (x3 + 1).toNatClampNeg]) (st := []) kl_hE (kl_a7 0 rfl) lvL_82 arX7_undo (c_X7_undo_0 l σ hX (xs (x3 + 1).toNatClampNeg) ) (by decide) (Nat.le_of_ble_eq_true rfl) rfl (fun v sX pX => ?_)
  obtain ⟨⟨IX, FX⟩, rX, rfl, eX⟩ := pX
  show kw_AW l 30 ((1002, L, xs) :: kw_E0) KJ mL_law kl_P 717 [(3, .int x3), (2, .ref 61), (1, .ref 0), (0, .ref 1002)] [.int rX] (kw_mixX σ sX)
  refine kw_pop (pc := 717) (i := 421) (kl_a7 1 rfl) rfl ?_
  refine kw_aload_n (pc := 718) (i := 422) (k := 1) (n := 2) (kl_a7 2 rfl) rfl rfl ?_
  refine kw_aload_n (pc := 719) (i := 423) (k := 3) (n := 0) (kl_a7 3 rfl) rfl rfl ?_
  refine kw_iload_n (pc := 720) (i := 424) (k := 0) (n := 3) (kl_a7 4 rfl) rfl rfl ?_
  refine kw_iconst (pc := 721) (i := 425) (v := 1) (kl_a7 5 rfl) rfl ?_
  refine kw_iadd (pc := 722) (i := 426) (kl_a7 6 rfl) (fun z3 e_z3 t_z3 => ?_)
  subst e_z3
  clear t_z3
  refine kw_tld (pc := 723) (i := 427) (k := 0) (n := L) (kl_a7 7 rfl) rfl (by omega) (by omega) (fun z4 e_z4 => ?_)
  subst e_z4
  refine kw_callM (pc := 724) (i := 428) (Y := mX8_undo) (xs := [xs (x3 + 1).toNatClampNeg]) (st := []) kl_hE (kl_a7 8 rfl) lvL_85 arX8_undo (c_X8_undo_0 l T (by omega) (by omega) (kw_sh 61 (kw_mixX σ sX)) (by rw [kw_sh_mixX]; exact hM) (xs (x3 + 1).toNatClampNeg) ) (by decide) (Nat.le_of_ble_eq_true rfl) rfl (fun _ _ q => by obtain ⟨-, r, rfl, -⟩ := q; exact fun _ _ => rfl) (fun v sM pM => ?_)
  obtain ⟨⟨IM, FM⟩, rM, rfl, eM⟩ := pM
  rw [kw_sh_mixX] at FM eM
  have AX : kw_I bX (kw_mixM (kw_mixX σ sX) sM) := kw_IX_mixM (kw_IX_mixX IX)
  have AM : kw_I (bM T) (kw_sh 61 (kw_mixM (kw_mixX σ sX) sM)) := by rw [kw_sh_mixM]; exact IM
  have Q := (show kr_R sX sM ∧ rX = rM from ⟨⟨hR.1.fr FX FM (by decide) (by decide), hR.2.1.fr FX FM (by decide) (by decide), (kr_undo hR.2.1 hR.2.2.1 (xs (x3 + 1).toNatClampNeg) eX eM).1, hR.2.2.2.fr FX FM (by decide) (by decide)⟩, (kr_undo hR.2.1 hR.2.2.1 (xs (x3 + 1).toNatClampNeg) eX eM).2⟩)
  have AR : kr_R (kw_mixM (kw_mixX σ sX) sM) (kw_sh 61 (kw_mixM (kw_mixX σ sX) sM)) := by rw [kw_sh_mixM]; exact ⟨(Q.1).1.mix, (Q.1).2.1.mix, kr_D.mix (Q.1).2.1 (Q.1).2.2.1, (Q.1).2.2.2.mix⟩
  generalize (kw_mixM (kw_mixX σ sX) sM) = J at AX AM AR ⊢
  show kw_AW l 30 ((1002, L, xs) :: kw_E0) KJ mL_law kl_P 727 [(3, .int x3), (2, .ref 61), (1, .ref 0), (0, .ref 1002)] [.int rM] J
  refine kw_pop (pc := 727) (i := 429) (kl_a7 9 rfl) rfl ?_
  refine kw_goto (pc := 728) (i := 430) (tgt := 1359) (kl_a7 10 rfl) rfl ?_
  exact hnext J T AX AM AR (by omega) (by omega)
set_option maxRecDepth 100000 in
set_option maxHeartbeats 4000000 in
theorem kl_case17 (l : Launch) (L : Nat) (xs : Nat → Int32) (hL : L ≤ 384) (x3 : Int32) (h0 : 0 ≤ x3.toInt) (h1 : x3.toInt + 6 ≤ L) (σ : kw_S) (T : Int) (hX : kw_I bX σ) (hM : kw_I (bM T) (kw_sh 61 σ)) (hR : kr_R σ (kw_sh 61 σ)) (hT0 : 0 ≤ T) (hT1 : T ≤ 2000) (hnext : ∀ (S : kw_S) (T' : Int), kw_I bX S → kw_I (bM T') (kw_sh 61 S) → kr_R S (kw_sh 61 S) → 0 ≤ T' → T' ≤ T + 20 → kw_AW l 30 ((1002, L, xs) :: kw_E0) KJ mL_law kl_P 1359 [(3, .int x3), (2, .ref 61), (1, .ref 0), (0, .ref 1002)] [] S) : kw_AW l 30 ((1002, L, xs) :: kw_E0) KJ mL_law kl_P 731 [(3, .int x3), (2, .ref 61), (1, .ref 0), (0, .ref 1002)] [] σ := by
  have u1 : (x3 + 1).toInt = x3.toInt + 1 := by rw [kw_addI, show (1 : Int32).toInt = 1 from rfl]; omega
  have u2 : (x3 + 2).toInt = x3.toInt + 2 := by rw [kw_addI, show (2 : Int32).toInt = 2 from rfl]; omega
  have u3 : (x3 + 3).toInt = x3.toInt + 3 := by rw [kw_addI, show (3 : Int32).toInt = 3 from rfl]; omega
  have u4 : (x3 + 4).toInt = x3.toInt + 4 := by rw [kw_addI, show (4 : Int32).toInt = 4 from rfl]; omega
  have u5 : (x3 + 5).toInt = x3.toInt + 5 := by rw [kw_addI, show (5 : Int32).toInt = 5 from rfl]; omega
  refine kw_aload_n (pc := 731) (i := 431) (k := 2) (n := 1) (kl_a7 11 rfl) rfl rfl ?_
  refine kw_aload_n (pc := 732) (i := 432) (k := 3) (n := 0) (kl_a7 12 rfl) rfl rfl ?_
  refine kw_iload_n (pc := 733) (i := 433) (k := 0) (n := 3) (kl_a7 13 rfl) rfl rfl ?_
  refine kw_iconst (pc := 734) (i := 434) (v := 1) (kl_a7 14 rfl) rfl ?_
  refine kw_iadd (pc := 735) (i := 435) (kl_a7 15 rfl) (fun z1 e_z1 t_z1 => ?_)
  subst e_z1
  clear t_z1
  refine kw_tld (pc := 736) (i := 436) (k := 0) (n := L) (kl_a7 16 rfl) rfl (by omega) (by omega) (fun z2 e_z2 => ?_)
  subst e_z2
  refine kw_callX (pc := 737) (i := 437) (Y := mX7_keep) (xs := [xs (x3 + 1).toNatClampNeg]) (st := []) kl_hE (kl_a7 17 rfl) lvL_86 arX7_keep (c_X7_keep_0 l σ hX (xs (x3 + 1).toNatClampNeg) ) (by decide) (Nat.le_of_ble_eq_true rfl) rfl (fun v sX pX => ?_)
  obtain ⟨⟨IX, FX⟩, rX, rfl, eX⟩ := pX
  show kw_AW l 30 ((1002, L, xs) :: kw_E0) KJ mL_law kl_P 740 [(3, .int x3), (2, .ref 61), (1, .ref 0), (0, .ref 1002)] [.int rX] (kw_mixX σ sX)
  refine kw_pop (pc := 740) (i := 438) (kl_a7 18 rfl) rfl ?_
  refine kw_aload_n (pc := 741) (i := 439) (k := 1) (n := 2) (kl_a7 19 rfl) rfl rfl ?_
  refine kw_aload_n (pc := 742) (i := 440) (k := 3) (n := 0) (kl_a7 20 rfl) rfl rfl ?_
  refine kw_iload_n (pc := 743) (i := 441) (k := 0) (n := 3) (kl_a7 21 rfl) rfl rfl ?_
  refine kw_iconst (pc := 744) (i := 442) (v := 1) (kl_a7 22 rfl) rfl ?_
  refine kw_iadd (pc := 745) (i := 443) (kl_a7 23 rfl) (fun z3 e_z3 t_z3 => ?_)
  subst e_z3
  clear t_z3
  refine kw_tld (pc := 746) (i := 444) (k := 0) (n := L) (kl_a7 24 rfl) rfl (by omega) (by omega) (fun z4 e_z4 => ?_)
  subst e_z4
  refine kw_callM (pc := 747) (i := 445) (Y := mX8_keep) (xs := [xs (x3 + 1).toNatClampNeg]) (st := []) kl_hE (kl_a7 25 rfl) lvL_89 arX8_keep (c_X8_keep_0 l T (by omega) (by omega) (kw_sh 61 (kw_mixX σ sX)) (by rw [kw_sh_mixX]; exact hM) (xs (x3 + 1).toNatClampNeg) ) (by decide) (Nat.le_of_ble_eq_true rfl) rfl (fun _ _ q => by obtain ⟨-, r, rfl, -⟩ := q; exact fun _ _ => rfl) (fun v sM pM => ?_)
  obtain ⟨⟨IM, FM⟩, rM, rfl, eM⟩ := pM
  rw [kw_sh_mixX] at FM eM
  have AX : kw_I bX (kw_mixM (kw_mixX σ sX) sM) := kw_IX_mixM (kw_IX_mixX IX)
  have AM : kw_I (bM T) (kw_sh 61 (kw_mixM (kw_mixX σ sX) sM)) := by rw [kw_sh_mixM]; exact IM
  have Q := (show kr_R sX sM ∧ rX = rM from ⟨⟨hR.1.fr FX FM (by decide) (by decide), hR.2.1.fr FX FM (by decide) (by decide), (kr_keep hX hR.2.1 hR.2.2.1 (xs (x3 + 1).toNatClampNeg) eX eM).1, hR.2.2.2.fr FX FM (by decide) (by decide)⟩, (kr_keep hX hR.2.1 hR.2.2.1 (xs (x3 + 1).toNatClampNeg) eX eM).2⟩)
  have AR : kr_R (kw_mixM (kw_mixX σ sX) sM) (kw_sh 61 (kw_mixM (kw_mixX σ sX) sM)) := by rw [kw_sh_mixM]; exact ⟨(Q.1).1.mix, (Q.1).2.1.mix, kr_D.mix (Q.1).2.1 (Q.1).2.2.1, (Q.1).2.2.2.mix⟩
  generalize (kw_mixM (kw_mixX σ sX) sM) = J at AX AM AR ⊢
  show kw_AW l 30 ((1002, L, xs) :: kw_E0) KJ mL_law kl_P 750 [(3, .int x3), (2, .ref 61), (1, .ref 0), (0, .ref 1002)] [.int rM] J
  refine kw_pop (pc := 750) (i := 446) (kl_a7 26 rfl) rfl ?_
  refine kw_goto (pc := 751) (i := 447) (tgt := 1359) (kl_a7 27 rfl) rfl ?_
  exact hnext J T AX AM AR (by omega) (by omega)
set_option maxRecDepth 100000 in
set_option maxHeartbeats 4000000 in
theorem kl_case18 (l : Launch) (L : Nat) (xs : Nat → Int32) (hL : L ≤ 384) (x3 : Int32) (h0 : 0 ≤ x3.toInt) (h1 : x3.toInt + 6 ≤ L) (σ : kw_S) (T : Int) (hX : kw_I bX σ) (hM : kw_I (bM T) (kw_sh 61 σ)) (hR : kr_R σ (kw_sh 61 σ)) (hT0 : 0 ≤ T) (hT1 : T ≤ 2000) (hnext : ∀ (S : kw_S) (T' : Int), kw_I bX S → kw_I (bM T') (kw_sh 61 S) → kr_R S (kw_sh 61 S) → 0 ≤ T' → T' ≤ T + 20 → kw_AW l 30 ((1002, L, xs) :: kw_E0) KJ mL_law kl_P 1359 [(3, .int x3), (2, .ref 61), (1, .ref 0), (0, .ref 1002)] [] S) : kw_AW l 30 ((1002, L, xs) :: kw_E0) KJ mL_law kl_P 754 [(3, .int x3), (2, .ref 61), (1, .ref 0), (0, .ref 1002)] [] σ := by
  have u1 : (x3 + 1).toInt = x3.toInt + 1 := by rw [kw_addI, show (1 : Int32).toInt = 1 from rfl]; omega
  have u2 : (x3 + 2).toInt = x3.toInt + 2 := by rw [kw_addI, show (2 : Int32).toInt = 2 from rfl]; omega
  have u3 : (x3 + 3).toInt = x3.toInt + 3 := by rw [kw_addI, show (3 : Int32).toInt = 3 from rfl]; omega
  have u4 : (x3 + 4).toInt = x3.toInt + 4 := by rw [kw_addI, show (4 : Int32).toInt = 4 from rfl]; omega
  have u5 : (x3 + 5).toInt = x3.toInt + 5 := by rw [kw_addI, show (5 : Int32).toInt = 5 from rfl]; omega
  refine kw_aload_n (pc := 754) (i := 448) (k := 2) (n := 1) (kl_a7 28 rfl) rfl rfl ?_
  refine kw_aload_n (pc := 755) (i := 449) (k := 3) (n := 0) (kl_a7 29 rfl) rfl rfl ?_
  refine kw_iload_n (pc := 756) (i := 450) (k := 0) (n := 3) (kl_a7 30 rfl) rfl rfl ?_
  refine kw_iconst (pc := 757) (i := 451) (v := 1) (kl_a7 31 rfl) rfl ?_
  refine kw_iadd (pc := 758) (i := 452) (kl_a7 32 rfl) (fun z1 e_z1 t_z1 => ?_)
  subst e_z1
  clear t_z1
  refine kw_tld (pc := 759) (i := 453) (k := 0) (n := L) (kl_a7 33 rfl) rfl (by omega) (by omega) (fun z2 e_z2 => ?_)
  subst e_z2
  refine kw_callX (pc := 760) (i := 454) (Y := mX7_on) (xs := [xs (x3 + 1).toNatClampNeg]) (st := []) kl_hE (kl_a7 34 rfl) lvL_90 arX7_on (c_X7_on_0 l σ hX (xs (x3 + 1).toNatClampNeg) ) (by decide) (Nat.le_of_ble_eq_true rfl) rfl (fun v sX pX => ?_)
  obtain ⟨⟨IX, FX⟩, rX, rfl, eX⟩ := pX
  show kw_AW l 30 ((1002, L, xs) :: kw_E0) KJ mL_law kl_P 763 [(3, .int x3), (2, .ref 61), (1, .ref 0), (0, .ref 1002)] [.int rX] (kw_mixX σ sX)
  refine kw_pop (pc := 763) (i := 455) (kl_a7 35 rfl) rfl ?_
  refine kw_aload_n (pc := 764) (i := 456) (k := 1) (n := 2) (kl_a7 36 rfl) rfl rfl ?_
  refine kw_aload_n (pc := 765) (i := 457) (k := 3) (n := 0) (kl_a7 37 rfl) rfl rfl ?_
  refine kw_iload_n (pc := 766) (i := 458) (k := 0) (n := 3) (kl_a7 38 rfl) rfl rfl ?_
  refine kw_iconst (pc := 767) (i := 459) (v := 1) (kl_a7 39 rfl) rfl ?_
  refine kw_iadd (pc := 768) (i := 460) (kl_a7 40 rfl) (fun z3 e_z3 t_z3 => ?_)
  subst e_z3
  clear t_z3
  refine kw_tld (pc := 769) (i := 461) (k := 0) (n := L) (kl_a7 41 rfl) rfl (by omega) (by omega) (fun z4 e_z4 => ?_)
  subst e_z4
  refine kw_callM (pc := 770) (i := 462) (Y := mX8_on) (xs := [xs (x3 + 1).toNatClampNeg]) (st := []) kl_hE (kl_a7 42 rfl) lvL_93 arX8_on (c_X8_on_0 l T (by omega) (by omega) (kw_sh 61 (kw_mixX σ sX)) (by rw [kw_sh_mixX]; exact hM) (xs (x3 + 1).toNatClampNeg) ) (by decide) (Nat.le_of_ble_eq_true rfl) rfl (fun _ _ q => by obtain ⟨-, r, rfl, -⟩ := q; exact fun _ _ => rfl) (fun v sM pM => ?_)
  obtain ⟨⟨IM, FM⟩, rM, rfl, eM⟩ := pM
  rw [kw_sh_mixX] at FM eM
  have AX : kw_I bX (kw_mixM (kw_mixX σ sX) sM) := kw_IX_mixM (kw_IX_mixX IX)
  have AM : kw_I (bM T) (kw_sh 61 (kw_mixM (kw_mixX σ sX) sM)) := by rw [kw_sh_mixM]; exact IM
  have Q := (show kr_R sX sM ∧ rX = rM from ⟨⟨hR.1.fr FX FM (by decide) (by decide), hR.2.1.fr FX FM (by decide) (by decide), (kr_on hX hR.2.1 hR.2.2.1 (xs (x3 + 1).toNatClampNeg) eX eM).1, hR.2.2.2.fr FX FM (by decide) (by decide)⟩, (kr_on hX hR.2.1 hR.2.2.1 (xs (x3 + 1).toNatClampNeg) eX eM).2⟩)
  have AR : kr_R (kw_mixM (kw_mixX σ sX) sM) (kw_sh 61 (kw_mixM (kw_mixX σ sX) sM)) := by rw [kw_sh_mixM]; exact ⟨(Q.1).1.mix, (Q.1).2.1.mix, kr_D.mix (Q.1).2.1 (Q.1).2.2.1, (Q.1).2.2.2.mix⟩
  generalize (kw_mixM (kw_mixX σ sX) sM) = J at AX AM AR ⊢
  show kw_AW l 30 ((1002, L, xs) :: kw_E0) KJ mL_law kl_P 773 [(3, .int x3), (2, .ref 61), (1, .ref 0), (0, .ref 1002)] [.int rM] J
  refine kw_pop (pc := 773) (i := 463) (kl_a7 43 rfl) rfl ?_
  refine kw_goto (pc := 774) (i := 464) (tgt := 1359) (kl_a7 44 rfl) rfl ?_
  exact hnext J T AX AM AR (by omega) (by omega)
set_option maxRecDepth 100000 in
set_option maxHeartbeats 4000000 in
theorem kl_case19 (l : Launch) (L : Nat) (xs : Nat → Int32) (hL : L ≤ 384) (x3 : Int32) (h0 : 0 ≤ x3.toInt) (h1 : x3.toInt + 6 ≤ L) (σ : kw_S) (T : Int) (hX : kw_I bX σ) (hM : kw_I (bM T) (kw_sh 61 σ)) (hR : kr_R σ (kw_sh 61 σ)) (hT0 : 0 ≤ T) (hT1 : T ≤ 2000) (hnext : ∀ (S : kw_S) (T' : Int), kw_I bX S → kw_I (bM T') (kw_sh 61 S) → kr_R S (kw_sh 61 S) → 0 ≤ T' → T' ≤ T + 20 → kw_AW l 30 ((1002, L, xs) :: kw_E0) KJ mL_law kl_P 1359 [(3, .int x3), (2, .ref 61), (1, .ref 0), (0, .ref 1002)] [] S) : kw_AW l 30 ((1002, L, xs) :: kw_E0) KJ mL_law kl_P 777 [(3, .int x3), (2, .ref 61), (1, .ref 0), (0, .ref 1002)] [] σ := by
  have u1 : (x3 + 1).toInt = x3.toInt + 1 := by rw [kw_addI, show (1 : Int32).toInt = 1 from rfl]; omega
  have u2 : (x3 + 2).toInt = x3.toInt + 2 := by rw [kw_addI, show (2 : Int32).toInt = 2 from rfl]; omega
  have u3 : (x3 + 3).toInt = x3.toInt + 3 := by rw [kw_addI, show (3 : Int32).toInt = 3 from rfl]; omega
  have u4 : (x3 + 4).toInt = x3.toInt + 4 := by rw [kw_addI, show (4 : Int32).toInt = 4 from rfl]; omega
  have u5 : (x3 + 5).toInt = x3.toInt + 5 := by rw [kw_addI, show (5 : Int32).toInt = 5 from rfl]; omega
  refine kw_aload_n (pc := 777) (i := 465) (k := 2) (n := 1) (kl_a7 45 rfl) rfl rfl ?_
  refine kw_aload_n (pc := 778) (i := 466) (k := 3) (n := 0) (kl_a7 46 rfl) rfl rfl ?_
  refine kw_iload_n (pc := 779) (i := 467) (k := 0) (n := 3) (kl_a7 47 rfl) rfl rfl ?_
  refine kw_iconst (pc := 780) (i := 468) (v := 1) (kl_a7 48 rfl) rfl ?_
  refine kw_iadd (pc := 781) (i := 469) (kl_a7 49 rfl) (fun z1 e_z1 t_z1 => ?_)
  subst e_z1
  clear t_z1
  refine kw_tld (pc := 782) (i := 470) (k := 0) (n := L) (kl_a7 50 rfl) rfl (by omega) (by omega) (fun z2 e_z2 => ?_)
  subst e_z2
  refine kw_callX (pc := 783) (i := 471) (Y := mX7_goes) (xs := [xs (x3 + 1).toNatClampNeg]) (st := []) kl_hE (kl_a7 51 rfl) lvL_94 arX7_goes (c_X7_goes_0 l σ hX (xs (x3 + 1).toNatClampNeg) ) (by decide) (Nat.le_of_ble_eq_true rfl) rfl (fun v sX pX => ?_)
  obtain ⟨⟨IX, FX⟩, rX, rfl, eX⟩ := pX
  show kw_AW l 30 ((1002, L, xs) :: kw_E0) KJ mL_law kl_P 786 [(3, .int x3), (2, .ref 61), (1, .ref 0), (0, .ref 1002)] [.int rX] (kw_mixX σ sX)
  refine kw_pop (pc := 786) (i := 472) (kl_a7 52 rfl) rfl ?_
  refine kw_aload_n (pc := 787) (i := 473) (k := 1) (n := 2) (kl_a7 53 rfl) rfl rfl ?_
  refine kw_aload_n (pc := 788) (i := 474) (k := 3) (n := 0) (kl_a7 54 rfl) rfl rfl ?_
  refine kw_iload_n (pc := 789) (i := 475) (k := 0) (n := 3) (kl_a7 55 rfl) rfl rfl ?_
  refine kw_iconst (pc := 790) (i := 476) (v := 1) (kl_a7 56 rfl) rfl ?_
  refine kw_iadd (pc := 791) (i := 477) (kl_a7 57 rfl) (fun z3 e_z3 t_z3 => ?_)
  subst e_z3
  clear t_z3
  refine kw_tld (pc := 792) (i := 478) (k := 0) (n := L) (kl_a7 58 rfl) rfl (by omega) (by omega) (fun z4 e_z4 => ?_)
  subst e_z4
  refine kw_callM (pc := 793) (i := 479) (Y := mX8_goes) (xs := [xs (x3 + 1).toNatClampNeg]) (st := []) kl_hE (kl_a7 59 rfl) lvL_97 arX8_goes (c_X8_goes_0 l T (by omega) (by omega) (kw_sh 61 (kw_mixX σ sX)) (by rw [kw_sh_mixX]; exact hM) (xs (x3 + 1).toNatClampNeg) ) (by decide) (Nat.le_of_ble_eq_true rfl) rfl (fun _ _ q => by obtain ⟨-, r, rfl, -⟩ := q; exact fun _ _ => rfl) (fun v sM pM => ?_)
  obtain ⟨⟨IM, FM⟩, rM, rfl, eM⟩ := pM
  rw [kw_sh_mixX] at FM eM
  have AX : kw_I bX (kw_mixM (kw_mixX σ sX) sM) := kw_IX_mixM (kw_IX_mixX IX)
  have AM : kw_I (bM T) (kw_sh 61 (kw_mixM (kw_mixX σ sX) sM)) := by rw [kw_sh_mixM]; exact IM
  have Q := (show kr_R sX sM ∧ rX = rM from ⟨kr_R.fr hR FX FM (by decide) (by decide), kr_goes hR.2.1 (xs (x3 + 1).toNatClampNeg) eX eM⟩)
  have AR : kr_R (kw_mixM (kw_mixX σ sX) sM) (kw_sh 61 (kw_mixM (kw_mixX σ sX) sM)) := by rw [kw_sh_mixM]; exact ⟨(Q.1).1.mix, (Q.1).2.1.mix, kr_D.mix (Q.1).2.1 (Q.1).2.2.1, (Q.1).2.2.2.mix⟩
  generalize (kw_mixM (kw_mixX σ sX) sM) = J at AX AM AR ⊢
  show kw_AW l 30 ((1002, L, xs) :: kw_E0) KJ mL_law kl_P 796 [(3, .int x3), (2, .ref 61), (1, .ref 0), (0, .ref 1002)] [.int rM] J
  refine kw_pop (pc := 796) (i := 480) (kl_a8 0 rfl) rfl ?_
  refine kw_goto (pc := 797) (i := 481) (tgt := 1359) (kl_a8 1 rfl) rfl ?_
  exact hnext J T AX AM AR (by omega) (by omega)
set_option maxRecDepth 100000 in
set_option maxHeartbeats 4000000 in
theorem kl_case20 (l : Launch) (L : Nat) (xs : Nat → Int32) (hL : L ≤ 384) (x3 : Int32) (h0 : 0 ≤ x3.toInt) (h1 : x3.toInt + 6 ≤ L) (σ : kw_S) (T : Int) (hX : kw_I bX σ) (hM : kw_I (bM T) (kw_sh 61 σ)) (hR : kr_R σ (kw_sh 61 σ)) (hT0 : 0 ≤ T) (hT1 : T ≤ 2000) (hnext : ∀ (S : kw_S) (T' : Int), kw_I bX S → kw_I (bM T') (kw_sh 61 S) → kr_R S (kw_sh 61 S) → 0 ≤ T' → T' ≤ T + 20 → kw_AW l 30 ((1002, L, xs) :: kw_E0) KJ mL_law kl_P 1359 [(3, .int x3), (2, .ref 61), (1, .ref 0), (0, .ref 1002)] [] S) : kw_AW l 30 ((1002, L, xs) :: kw_E0) KJ mL_law kl_P 800 [(3, .int x3), (2, .ref 61), (1, .ref 0), (0, .ref 1002)] [] σ := by
  have u1 : (x3 + 1).toInt = x3.toInt + 1 := by rw [kw_addI, show (1 : Int32).toInt = 1 from rfl]; omega
  have u2 : (x3 + 2).toInt = x3.toInt + 2 := by rw [kw_addI, show (2 : Int32).toInt = 2 from rfl]; omega
  have u3 : (x3 + 3).toInt = x3.toInt + 3 := by rw [kw_addI, show (3 : Int32).toInt = 3 from rfl]; omega
  have u4 : (x3 + 4).toInt = x3.toInt + 4 := by rw [kw_addI, show (4 : Int32).toInt = 4 from rfl]; omega
  have u5 : (x3 + 5).toInt = x3.toInt + 5 := by rw [kw_addI, show (5 : Int32).toInt = 5 from rfl]; omega
  refine kw_aload_n (pc := 800) (i := 482) (k := 2) (n := 1) (kl_a8 2 rfl) rfl rfl ?_
  refine kw_aload_n (pc := 801) (i := 483) (k := 3) (n := 0) (kl_a8 3 rfl) rfl rfl ?_
  refine kw_iload_n (pc := 802) (i := 484) (k := 0) (n := 3) (kl_a8 4 rfl) rfl rfl ?_
  refine kw_iconst (pc := 803) (i := 485) (v := 1) (kl_a8 5 rfl) rfl ?_
  refine kw_iadd (pc := 804) (i := 486) (kl_a8 6 rfl) (fun z1 e_z1 t_z1 => ?_)
  subst e_z1
  clear t_z1
  refine kw_tld (pc := 805) (i := 487) (k := 0) (n := L) (kl_a8 7 rfl) rfl (by omega) (by omega) (fun z2 e_z2 => ?_)
  subst e_z2
  refine kw_callX (pc := 806) (i := 488) (Y := mX7_even) (xs := [xs (x3 + 1).toNatClampNeg]) (st := []) kl_hE (kl_a8 8 rfl) lvL_98 arX7_even (c_X7_even_0 l σ hX (xs (x3 + 1).toNatClampNeg) ) (by decide) (Nat.le_of_ble_eq_true rfl) rfl (fun v sX pX => ?_)
  obtain ⟨⟨IX, FX⟩, rX, rfl, f3, eX⟩ := pX
  show kw_AW l 30 ((1002, L, xs) :: kw_E0) KJ mL_law kl_P 809 [(3, .int x3), (2, .ref 61), (1, .ref 0), (0, .ref 1002)] [.int rX] (kw_mixX σ sX)
  refine kw_pop (pc := 809) (i := 489) (kl_a8 9 rfl) rfl ?_
  refine kw_aload_n (pc := 810) (i := 490) (k := 1) (n := 2) (kl_a8 10 rfl) rfl rfl ?_
  refine kw_aload_n (pc := 811) (i := 491) (k := 3) (n := 0) (kl_a8 11 rfl) rfl rfl ?_
  refine kw_iload_n (pc := 812) (i := 492) (k := 0) (n := 3) (kl_a8 12 rfl) rfl rfl ?_
  refine kw_iconst (pc := 813) (i := 493) (v := 1) (kl_a8 13 rfl) rfl ?_
  refine kw_iadd (pc := 814) (i := 494) (kl_a8 14 rfl) (fun z4 e_z4 t_z4 => ?_)
  subst e_z4
  clear t_z4
  refine kw_tld (pc := 815) (i := 495) (k := 0) (n := L) (kl_a8 15 rfl) rfl (by omega) (by omega) (fun z5 e_z5 => ?_)
  subst e_z5
  refine kw_callM (pc := 816) (i := 496) (Y := mX8_even) (xs := [xs (x3 + 1).toNatClampNeg]) (st := []) kl_hE (kl_a8 16 rfl) lvL_101 arX8_even (c_X8_even_0 l T (by omega) (by omega) (kw_sh 61 (kw_mixX σ sX)) (by rw [kw_sh_mixX]; exact hM) (xs (x3 + 1).toNatClampNeg) ) (by decide) (Nat.le_of_ble_eq_true rfl) rfl (fun _ _ q => by obtain ⟨-, r, rfl, -⟩ := q; exact fun _ _ => rfl) (fun v sM pM => ?_)
  obtain ⟨⟨IM, FM⟩, rM, rfl, f6, eM⟩ := pM
  rw [kw_sh_mixX] at FM eM
  first | rw [kw_sh_mixX] at f6 | skip
  have AX : kw_I bX (kw_mixM (kw_mixX σ sX) sM) := kw_IX_mixM (kw_IX_mixX IX)
  have AM : kw_I (bM T) (kw_sh 61 (kw_mixM (kw_mixX σ sX) sM)) := by rw [kw_sh_mixM]; exact IM
  have Q := kr_R.fr hR FX FM (by decide) (by decide)
  have AR : kr_R (kw_mixM (kw_mixX σ sX) sM) (kw_sh 61 (kw_mixM (kw_mixX σ sX) sM)) := by rw [kw_sh_mixM]; exact ⟨(Q).1.mix, (Q).2.1.mix, kr_D.mix (Q).2.1 (Q).2.2.1, (Q).2.2.2.mix⟩
  generalize (kw_mixM (kw_mixX σ sX) sM) = J at AX AM AR ⊢
  show kw_AW l 30 ((1002, L, xs) :: kw_E0) KJ mL_law kl_P 819 [(3, .int x3), (2, .ref 61), (1, .ref 0), (0, .ref 1002)] [.int rM] J
  refine kw_pop (pc := 819) (i := 497) (kl_a8 17 rfl) rfl ?_
  refine kw_goto (pc := 820) (i := 498) (tgt := 1359) (kl_a8 18 rfl) rfl ?_
  exact hnext J T AX AM AR (by omega) (by omega)
set_option maxRecDepth 100000 in
set_option maxHeartbeats 4000000 in
theorem kl_case21 (l : Launch) (L : Nat) (xs : Nat → Int32) (hL : L ≤ 384) (x3 : Int32) (h0 : 0 ≤ x3.toInt) (h1 : x3.toInt + 6 ≤ L) (σ : kw_S) (T : Int) (hX : kw_I bX σ) (hM : kw_I (bM T) (kw_sh 61 σ)) (hR : kr_R σ (kw_sh 61 σ)) (hT0 : 0 ≤ T) (hT1 : T ≤ 2000) (hnext : ∀ (S : kw_S) (T' : Int), kw_I bX S → kw_I (bM T') (kw_sh 61 S) → kr_R S (kw_sh 61 S) → 0 ≤ T' → T' ≤ T + 20 → kw_AW l 30 ((1002, L, xs) :: kw_E0) KJ mL_law kl_P 1359 [(3, .int x3), (2, .ref 61), (1, .ref 0), (0, .ref 1002)] [] S) : kw_AW l 30 ((1002, L, xs) :: kw_E0) KJ mL_law kl_P 823 [(3, .int x3), (2, .ref 61), (1, .ref 0), (0, .ref 1002)] [] σ := by
  have u1 : (x3 + 1).toInt = x3.toInt + 1 := by rw [kw_addI, show (1 : Int32).toInt = 1 from rfl]; omega
  have u2 : (x3 + 2).toInt = x3.toInt + 2 := by rw [kw_addI, show (2 : Int32).toInt = 2 from rfl]; omega
  have u3 : (x3 + 3).toInt = x3.toInt + 3 := by rw [kw_addI, show (3 : Int32).toInt = 3 from rfl]; omega
  have u4 : (x3 + 4).toInt = x3.toInt + 4 := by rw [kw_addI, show (4 : Int32).toInt = 4 from rfl]; omega
  have u5 : (x3 + 5).toInt = x3.toInt + 5 := by rw [kw_addI, show (5 : Int32).toInt = 5 from rfl]; omega
  refine kw_aload_n (pc := 823) (i := 499) (k := 2) (n := 1) (kl_a8 19 rfl) rfl rfl ?_
  refine kw_aload_n (pc := 824) (i := 500) (k := 3) (n := 0) (kl_a8 20 rfl) rfl rfl ?_
  refine kw_iload_n (pc := 825) (i := 501) (k := 0) (n := 3) (kl_a8 21 rfl) rfl rfl ?_
  refine kw_iconst (pc := 826) (i := 502) (v := 1) (kl_a8 22 rfl) rfl ?_
  refine kw_iadd (pc := 827) (i := 503) (kl_a8 23 rfl) (fun z1 e_z1 t_z1 => ?_)
  subst e_z1
  clear t_z1
  refine kw_tld (pc := 828) (i := 504) (k := 0) (n := L) (kl_a8 24 rfl) rfl (by omega) (by omega) (fun z2 e_z2 => ?_)
  subst e_z2
  refine kw_callX (pc := 829) (i := 505) (Y := mX7_fast) (xs := [xs (x3 + 1).toNatClampNeg]) (st := []) kl_hE (kl_a8 25 rfl) lvL_102 arX7_fast (c_X7_fast_0 l σ hX (xs (x3 + 1).toNatClampNeg) ) (by decide) (Nat.le_of_ble_eq_true rfl) rfl (fun v sX pX => ?_)
  obtain ⟨⟨IX, FX⟩, rX, rfl, eX⟩ := pX
  show kw_AW l 30 ((1002, L, xs) :: kw_E0) KJ mL_law kl_P 832 [(3, .int x3), (2, .ref 61), (1, .ref 0), (0, .ref 1002)] [.int rX] (kw_mixX σ sX)
  refine kw_pop (pc := 832) (i := 506) (kl_a8 26 rfl) rfl ?_
  refine kw_aload_n (pc := 833) (i := 507) (k := 1) (n := 2) (kl_a8 27 rfl) rfl rfl ?_
  refine kw_aload_n (pc := 834) (i := 508) (k := 3) (n := 0) (kl_a8 28 rfl) rfl rfl ?_
  refine kw_iload_n (pc := 835) (i := 509) (k := 0) (n := 3) (kl_a8 29 rfl) rfl rfl ?_
  refine kw_iconst (pc := 836) (i := 510) (v := 1) (kl_a8 30 rfl) rfl ?_
  refine kw_iadd (pc := 837) (i := 511) (kl_a8 31 rfl) (fun z3 e_z3 t_z3 => ?_)
  subst e_z3
  clear t_z3
  refine kw_tld (pc := 838) (i := 512) (k := 0) (n := L) (kl_a8 32 rfl) rfl (by omega) (by omega) (fun z4 e_z4 => ?_)
  subst e_z4
  refine kw_callM (pc := 839) (i := 513) (Y := mX8_fast) (xs := [xs (x3 + 1).toNatClampNeg]) (st := []) kl_hE (kl_a8 33 rfl) lvL_105 arX8_fast (c_X8_fast_0 l T (by omega) (by omega) (kw_sh 61 (kw_mixX σ sX)) (by rw [kw_sh_mixX]; exact hM) (xs (x3 + 1).toNatClampNeg) ) (by decide) (Nat.le_of_ble_eq_true rfl) rfl (fun _ _ q => by obtain ⟨-, r, rfl, -⟩ := q; exact fun _ _ => rfl) (fun v sM pM => ?_)
  obtain ⟨⟨IM, FM⟩, rM, rfl, eM⟩ := pM
  rw [kw_sh_mixX] at FM eM
  have AX : kw_I bX (kw_mixM (kw_mixX σ sX) sM) := kw_IX_mixM (kw_IX_mixX IX)
  have AM : kw_I (bM T) (kw_sh 61 (kw_mixM (kw_mixX σ sX) sM)) := by rw [kw_sh_mixM]; exact IM
  have Q := (show kr_R sX sM ∧ rX = rM from ⟨kr_R.fr hR FX FM (by decide) (by decide), (kr_fast hR.2.1 hR.2.2.1 (xs (x3 + 1).toNatClampNeg) eX eM).1⟩)
  have AR : kr_R (kw_mixM (kw_mixX σ sX) sM) (kw_sh 61 (kw_mixM (kw_mixX σ sX) sM)) := by rw [kw_sh_mixM]; exact ⟨(Q.1).1.mix, (Q.1).2.1.mix, kr_D.mix (Q.1).2.1 (Q.1).2.2.1, (Q.1).2.2.2.mix⟩
  generalize (kw_mixM (kw_mixX σ sX) sM) = J at AX AM AR ⊢
  show kw_AW l 30 ((1002, L, xs) :: kw_E0) KJ mL_law kl_P 842 [(3, .int x3), (2, .ref 61), (1, .ref 0), (0, .ref 1002)] [.int rM] J
  refine kw_pop (pc := 842) (i := 514) (kl_a8 34 rfl) rfl ?_
  refine kw_goto (pc := 843) (i := 515) (tgt := 1359) (kl_a8 35 rfl) rfl ?_
  exact hnext J T AX AM AR (by omega) (by omega)
