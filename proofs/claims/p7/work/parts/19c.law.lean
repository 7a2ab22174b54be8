set_option maxRecDepth 100000 in
set_option maxHeartbeats 4000000 in
theorem kl_loop (l : Launch) (L : Nat) (xs : Nat → Int32) (hL : L ≤ 384) : ∀ (n : Nat) (x3 : Int32) (σ : kw_S) (T : Int), kw_I bX σ → kw_I (bM T) (kw_sh 61 σ) → kr_R σ (kw_sh 61 σ) → 0 ≤ T → 0 ≤ x3.toInt → x3.toInt ≤ 400 → 3 * T ≤ 10 * x3.toInt → (500 - x3.toInt).toNat < n → kw_AW l 30 ((1002, L, xs) :: kw_E0) KJ mL_law kl_P 18 [(3, .int x3), (2, .ref 61), (1, .ref 0), (0, .ref 1002)] [] σ := by
  intro n
  induction n with
  | zero => intro x3 σ T _ _ _ _ _ _ _ hm; exact absurd hm (Nat.not_lt_zero _)
  | succ n ih =>
    intro x3 σ T hX hM hR hT0 h0 h400 hT hm
    have hLt : (Int32.ofNat L).toInt = (L : Int) := nI_toInt (by omega)
    have q6 : (6 : Int32).toInt = 6 := rfl
    refine kw_iload_n (pc := 18) (i := 10) (k := 0) (n := 3) rfl rfl rfl ?_
    refine kw_aload_n (pc := 19) (i := 11) (k := 3) (n := 0) rfl rfl rfl ?_
    refine kw_tlen (pc := 20) (i := 12) (k := 0) (n := L) (v := Int32.ofNat L) rfl rfl rfl ?_
    refine kw_bipush (pc := 21) (i := 13) (v := 6) rfl rfl ?_
    refine kw_isub (pc := 23) (i := 14) rfl (fun z e_z t_z => ?_)
    refine kw_icmp_gt (pc := 24) (i := 15) (tgt := 1365) rfl rfl (fun c => ?_) (fun c => ?_)
    · refine kw_iconst (pc := 1365) (i := 905) (v := 1) rfl rfl ?_
      exact kw_ireturn (pc := 1366) (i := 906) (ty := .boolean) rfl rfl rfl rfl
    · have h1 : x3.toInt + 6 ≤ L := by omega
      have hnext : ∀ (S : kw_S) (T' : Int), kw_I bX S → kw_I (bM T') (kw_sh 61 S) → kr_R S (kw_sh 61 S) → 0 ≤ T' → T' ≤ T + 20 → kw_AW l 30 ((1002, L, xs) :: kw_E0) KJ mL_law kl_P 1359 [(3, .int x3), (2, .ref 61), (1, .ref 0), (0, .ref 1002)] [] S := by
        intro S T' a1 a2 ar a3 a4
        refine kw_iinc' (pc := 1359) (i := 903) (k := 0) (fun z => [(3, .int z), (2, .ref 61), (1, .ref 0), (0, .ref 1002)]) rfl rfl (by decide) rfl (fun _ => rfl) (fun z5 e_z5 t_z5 => ?_)
        refine kw_goto (pc := 1362) (i := 904) (tgt := 18) rfl rfl ?_
        exact ih z5 S T' a1 a2 ar a3 (by omega) (by omega) (by omega) (by omega)
      refine kw_aload_n (pc := 27) (i := 16) (k := 3) (n := 0) rfl rfl rfl ?_
      refine kw_iload_n (pc := 28) (i := 17) (k := 0) (n := 3) rfl rfl rfl ?_
      refine kw_tld (pc := 29) (i := 18) (k := 0) (n := L) rfl rfl (by omega) (by omega) (fun v e_v => ?_)
      refine kw_bipush (pc := 30) (i := 19) (v := 63) rfl rfl ?_
      refine kw_iand (pc := 32) (i := 20) rfl (fun w e_w => ?_)
      have hw := kl_and63 v w e_w
      have hT1 : T ≤ 2000 := by omega
      by_cases g0 : w.toInt = 0
      · refine kw_tableIn (pc := 33) (i := 21) (k := 0) (tgt := 220) rfl (by omega) (by decide) rfl rfl ?_
        exact kl_case0 l L xs hL x3 h0 h1 σ T hX hM hR hT0 hT1 hnext
      by_cases g1 : w.toInt = 1
      · refine kw_tableIn (pc := 33) (i := 21) (k := 1) (tgt := 253) rfl (by omega) (by decide) rfl rfl ?_
        exact kl_case1 l L xs hL x3 h0 h1 σ T hX hM hR hT0 hT1 hnext
      by_cases g2 : w.toInt = 2
      · refine kw_tableIn (pc := 33) (i := 21) (k := 2) (tgt := 296) rfl (by omega) (by decide) rfl rfl ?_
        exact kl_case2 l L xs hL x3 h0 h1 σ T hX hM hR hT0 hT1 hnext
      by_cases g3 : w.toInt = 3
      · refine kw_tableIn (pc := 33) (i := 21) (k := 3) (tgt := 329) rfl (by omega) (by decide) rfl rfl ?_
        exact kl_case3 l L xs hL x3 h0 h1 σ T hX hM hR hT0 hT1 hnext
      by_cases g4 : w.toInt = 4
      · refine kw_tableIn (pc := 33) (i := 21) (k := 4) (tgt := 352) rfl (by omega) (by decide) rfl rfl ?_
        exact kl_case4 l L xs hL x3 h0 h1 σ T hX hM hR hT0 hT1 hnext
      by_cases g5 : w.toInt = 5
      · refine kw_tableIn (pc := 33) (i := 21) (k := 5) (tgt := 415) rfl (by omega) (by decide) rfl rfl ?_
        exact kl_case5 l L xs hL x3 h0 h1 σ T hX hM hR hT0 hT1 hnext
      by_cases g6 : w.toInt = 6
      · refine kw_tableIn (pc := 33) (i := 21) (k := 6) (tgt := 438) rfl (by omega) (by decide) rfl rfl ?_
        exact kl_case6 l L xs hL x3 h0 h1 σ T hX hM hR hT0 hT1 hnext
      by_cases g7 : w.toInt = 7
      · refine kw_tableIn (pc := 33) (i := 21) (k := 7) (tgt := 471) rfl (by omega) (by decide) rfl rfl ?_
        exact kl_case7 l L xs hL x3 h0 h1 σ T hX hM hR hT0 hT1 hnext
      by_cases g8 : w.toInt = 8
      · refine kw_tableIn (pc := 33) (i := 21) (k := 8) (tgt := 514) rfl (by omega) (by decide) rfl rfl ?_
        exact kl_case8 l L xs hL x3 h0 h1 σ T hX hM hR hT0 hT1 hnext
      by_cases g9 : w.toInt = 9
      · refine kw_tableIn (pc := 33) (i := 21) (k := 9) (tgt := 537) rfl (by omega) (by decide) rfl rfl ?_
        exact kl_case9 l L xs hL x3 h0 h1 σ T hX hM hR hT0 hT1 hnext
      by_cases g10 : w.toInt = 10
      · refine kw_tableIn (pc := 33) (i := 21) (k := 10) (tgt := 560) rfl (by omega) (by decide) rfl rfl ?_
        exact kl_case10 l L xs hL x3 h0 h1 σ T hX hM hR hT0 hT1 hnext
      by_cases g11 : w.toInt = 11
      · refine kw_tableIn (pc := 33) (i := 21) (k := 11) (tgt := 593) rfl (by omega) (by decide) rfl rfl ?_
        exact kl_case11 l L xs hL x3 h0 h1 σ T hX hM hR hT0 hT1 hnext
      by_cases g12 : w.toInt = 12
      · refine kw_tableIn (pc := 33) (i := 21) (k := 12) (tgt := 626) rfl (by omega) (by decide) rfl rfl ?_
        exact kl_case12 l L xs hL x3 h0 h1 σ T hX hM hR hT0 hT1 hnext
      by_cases g13 : w.toInt = 13
      · refine kw_tableIn (pc := 33) (i := 21) (k := 13) (tgt := 649) rfl (by omega) (by decide) rfl rfl ?_
        exact kl_case13 l L xs hL x3 h0 h1 σ T hX hM hR hT0 hT1 hnext
      by_cases g14 : w.toInt = 14
      · refine kw_tableIn (pc := 33) (i := 21) (k := 14) (tgt := 672) rfl (by omega) (by decide) rfl rfl ?_
        exact kl_case14 l L xs hL x3 h0 h1 σ T hX hM hR hT0 hT1 hnext
      by_cases g15 : w.toInt = 15
      · refine kw_tableIn (pc := 33) (i := 21) (k := 15) (tgt := 695) rfl (by omega) (by decide) rfl rfl ?_
        exact kl_case15 l L xs hL x3 h0 h1 σ T hX hM hR hT0 hT1 hnext
      by_cases g16 : w.toInt = 16
      · refine kw_tableIn (pc := 33) (i := 21) (k := 16) (tgt := 708) rfl (by omega) (by decide) rfl rfl ?_
        exact kl_case16 l L xs hL x3 h0 h1 σ T hX hM hR hT0 hT1 hnext
      by_cases g17 : w.toInt = 17
      · refine kw_tableIn (pc := 33) (i := 21) (k := 17) (tgt := 731) rfl (by omega) (by decide) rfl rfl ?_
        exact kl_case17 l L xs hL x3 h0 h1 σ T hX hM hR hT0 hT1 hnext
      by_cases g18 : w.toInt = 18
      · refine kw_tableIn (pc := 33) (i := 21) (k := 18) (tgt := 754) rfl (by omega) (by decide) rfl rfl ?_
        exact kl_case18 l L xs hL x3 h0 h1 σ T hX hM hR hT0 hT1 hnext
      by_cases g19 : w.toInt = 19
      · refine kw_tableIn (pc := 33) (i := 21) (k := 19) (tgt := 777) rfl (by omega) (by decide) rfl rfl ?_
        exact kl_case19 l L xs hL x3 h0 h1 σ T hX hM hR hT0 hT1 hnext
      by_cases g20 : w.toInt = 20
      · refine kw_tableIn (pc := 33) (i := 21) (k := 20) (tgt := 800) rfl (by omega) (by decide) rfl rfl ?_
        exact kl_case20 l L xs hL x3 h0 h1 σ T hX hM hR hT0 hT1 hnext
      by_cases g21 : w.toInt = 21
      · refine kw_tableIn (pc := 33) (i := 21) (k := 21) (tgt := 823) rfl (by omega) (by decide) rfl rfl ?_
        exact kl_case21 l L xs hL x3 h0 h1 σ T hX hM hR hT0 hT1 hnext
      by_cases g22 : w.toInt = 22
      · refine kw_tableIn (pc := 33) (i := 21) (k := 22) (tgt := 846) rfl (by omega) (by decide) rfl rfl ?_
        exact kl_case22 l L xs hL x3 h0 h1 σ T hX hM hR hT0 hT1 hnext
      by_cases g23 : w.toInt = 23
      · refine kw_tableIn (pc := 33) (i := 21) (k := 23) (tgt := 859) rfl (by omega) (by decide) rfl rfl ?_
        exact kl_case23 l L xs hL x3 h0 h1 σ T hX hM hR hT0 hT1 hnext
      by_cases g24 : w.toInt = 24
      · refine kw_tableIn (pc := 33) (i := 21) (k := 24) (tgt := 882) rfl (by omega) (by decide) rfl rfl ?_
        exact kl_case24 l L xs hL x3 h0 h1 σ T hX hM hR hT0 hT1 hnext
      by_cases g25 : w.toInt = 25
      · refine kw_tableIn (pc := 33) (i := 21) (k := 25) (tgt := 905) rfl (by omega) (by decide) rfl rfl ?_
        exact kl_case25 l L xs hL x3 h0 h1 σ T hX hM hR hT0 hT1 hnext
      by_cases g26 : w.toInt = 26
      · refine kw_tableIn (pc := 33) (i := 21) (k := 26) (tgt := 948) rfl (by omega) (by decide) rfl rfl ?_
        exact kl_case26 l L xs hL x3 h0 h1 σ T hX hM hR hT0 hT1 hnext
      by_cases g27 : w.toInt = 27
      · refine kw_tableIn (pc := 33) (i := 21) (k := 27) (tgt := 971) rfl (by omega) (by decide) rfl rfl ?_
        exact kl_case27 l L xs hL x3 h0 h1 σ T hX hM hR hT0 hT1 hnext
      by_cases g28 : w.toInt = 28
      · refine kw_tableIn (pc := 33) (i := 21) (k := 28) (tgt := 1004) rfl (by omega) (by decide) rfl rfl ?_
        exact kl_case28 l L xs hL x3 h0 h1 σ T hX hM hR hT0 hT1 hnext
      by_cases g29 : w.toInt = 29
      · refine kw_tableIn (pc := 33) (i := 21) (k := 29) (tgt := 1037) rfl (by omega) (by decide) rfl rfl ?_
        exact kl_case29 l L xs hL x3 h0 h1 σ T hX hM hR hT0 hT1 hnext
      by_cases g30 : w.toInt = 30
      · refine kw_tableIn (pc := 33) (i := 21) (k := 30) (tgt := 1070) rfl (by omega) (by decide) rfl rfl ?_
        exact kl_case30 l L xs hL x3 h0 h1 σ T hX hM hR hT0 hT1 hnext
      by_cases g31 : w.toInt = 31
      · refine kw_tableIn (pc := 33) (i := 21) (k := 31) (tgt := 1103) rfl (by omega) (by decide) rfl rfl ?_
        exact kl_case31 l L xs hL x3 h0 h1 σ T hX hM hR hT0 hT1 hnext
      by_cases g32 : w.toInt = 32
      · refine kw_tableIn (pc := 33) (i := 21) (k := 32) (tgt := 1126) rfl (by omega) (by decide) rfl rfl ?_
        exact kl_case32 l L xs hL x3 h0 h1 σ T hX hM hR hT0 hT1 hnext
      by_cases g33 : w.toInt = 33
      · refine kw_tableIn (pc := 33) (i := 21) (k := 33) (tgt := 1159) rfl (by omega) (by decide) rfl rfl ?_
        exact kl_case33 l L xs hL x3 h0 h1 σ T hX hM hR hT0 hT1 hnext
      by_cases g34 : w.toInt = 34
      · refine kw_tableIn (pc := 33) (i := 21) (k := 34) (tgt := 1202) rfl (by omega) (by decide) rfl rfl ?_
        exact kl_case34 l L xs hL x3 h0 h1 σ T hX hM hR hT0 hT1 hnext
      by_cases g35 : w.toInt = 35
      · refine kw_tableIn (pc := 33) (i := 21) (k := 35) (tgt := 1235) rfl (by omega) (by decide) rfl rfl ?_
        exact kl_case35 l L xs hL x3 h0 h1 σ T hX hM hR hT0 hT1 hnext
      by_cases g36 : w.toInt = 36
      · refine kw_tableIn (pc := 33) (i := 21) (k := 36) (tgt := 1248) rfl (by omega) (by decide) rfl rfl ?_
        exact kl_case36 l L xs hL x3 h0 h1 σ T hX hM hR hT0 hT1 hnext
      by_cases g37 : w.toInt = 37
      · refine kw_tableIn (pc := 33) (i := 21) (k := 37) (tgt := 1261) rfl (by omega) (by decide) rfl rfl ?_
        exact kl_case37 l L xs hL x3 h0 h1 σ T hX hM hR hT0 hT1 hnext
      by_cases g38 : w.toInt = 38
      · refine kw_tableIn (pc := 33) (i := 21) (k := 38) (tgt := 1274) rfl (by omega) (by decide) rfl rfl ?_
        exact kl_case38 l L xs hL x3 h0 h1 σ T hX hM hR hT0 hT1 hnext
      by_cases g39 : w.toInt = 39
      · refine kw_tableIn (pc := 33) (i := 21) (k := 39) (tgt := 1297) rfl (by omega) (by decide) rfl rfl ?_
        exact kl_case39 l L xs hL x3 h0 h1 σ T hX hM hR hT0 hT1 hnext
      by_cases g40 : w.toInt = 40
      · refine kw_tableIn (pc := 33) (i := 21) (k := 40) (tgt := 1310) rfl (by omega) (by decide) rfl rfl ?_
        exact kl_case40 l L xs hL x3 h0 h1 σ T hX hM hR hT0 hT1 hnext
      by_cases g41 : w.toInt = 41
      · refine kw_tableIn (pc := 33) (i := 21) (k := 41) (tgt := 1323) rfl (by omega) (by decide) rfl rfl ?_
        exact kl_case41 l L xs hL x3 h0 h1 σ T hX hM hR hT0 hT1 hnext
      by_cases g42 : w.toInt = 42
      · refine kw_tableIn (pc := 33) (i := 21) (k := 42) (tgt := 1346) rfl (by omega) (by decide) rfl rfl ?_
        exact kl_case42 l L xs hL x3 h0 h1 σ T hX hM hR hT0 hT1 hnext
      refine kw_tableOut (pc := 33) (i := 21) (tgt := 1359) rfl (by omega) rfl ?_
      exact hnext σ T hX hM hR hT0 (by omega)
