set_option maxRecDepth 100000 in
set_option maxHeartbeats 4000000 in
theorem kl_case22 (l : Launch) (L : Nat) (xs : Nat → Int32) (hL : L ≤ 384) (x3 : Int32) (h0 : 0 ≤ x3.toInt) (h1 : x3.toInt + 6 ≤ L) (σ : kw_S) (T : Int) (hX : kw_I bX σ) (hM : kw_I (bM T) (kw_sh 61 σ)) (hR : kr_R σ (kw_sh 61 σ)) (hT0 : 0 ≤ T) (hT1 : T ≤ 2000) (hnext : ∀ (S : kw_S) (T' : Int), kw_I bX S → kw_I (bM T') (kw_sh 61 S) → kr_R S (kw_sh 61 S) → 0 ≤ T' → T' ≤ T + 20 → kw_AW l 30 ((1002, L, xs) :: kw_E0) KJ mL_law kl_P 1359 [(3, .int x3), (2, .ref 61), (1, .ref 0), (0, .ref 1002)] [] S) : kw_AW l 30 ((1002, L, xs) :: kw_E0) KJ mL_law kl_P 846 [(3, .int x3), (2, .ref 61), (1, .ref 0), (0, .ref 1002)] [] σ := by
  have u1 : (x3 + 1).toInt = x3.toInt + 1 := by rw [kw_addI, show (1 : Int32).toInt = 1 from rfl]; omega
  have u2 : (x3 + 2).toInt = x3.toInt + 2 := by rw [kw_addI, show (2 : Int32).toInt = 2 from rfl]; omega
  have u3 : (x3 + 3).toInt = x3.toInt + 3 := by rw [kw_addI, show (3 : Int32).toInt = 3 from rfl]; omega
  have u4 : (x3 + 4).toInt = x3.toInt + 4 := by rw [kw_addI, show (4 : Int32).toInt = 4 from rfl]; omega
  have u5 : (x3 + 5).toInt = x3.toInt + 5 := by rw [kw_addI, show (5 : Int32).toInt = 5 from rfl]; omega
  refine kw_aload_n (pc := 846) (i := 516) (k := 2) (n := 1) (kl_a8 36 rfl) rfl rfl ?_
  refine kw_callX (pc := 847) (i := 517) (Y := mX7_wet) (xs := []) (st := []) kl_hE (kl_a8 37 rfl) lvL_106 arX7_wet (c_X7_wet_0 l σ hX  ) (by decide) (Nat.le_of_ble_eq_true rfl) rfl (fun v sX pX => ?_)
  obtain ⟨⟨IX, FX⟩, rX, rfl, eX⟩ := pX
  show kw_AW l 30 ((1002, L, xs) :: kw_E0) KJ mL_law kl_P 850 [(3, .int x3), (2, .ref 61), (1, .ref 0), (0, .ref 1002)] [.int rX] (kw_mixX σ sX)
  refine kw_pop (pc := 850) (i := 518) (kl_a8 38 rfl) rfl ?_
  refine kw_aload_n (pc := 851) (i := 519) (k := 1) (n := 2) (kl_a8 39 rfl) rfl rfl ?_
  refine kw_callM (pc := 852) (i := 520) (Y := mX8_wet) (xs := []) (st := []) kl_hE (kl_a8 40 rfl) lvL_109 arX8_wet (c_X8_wet_0 l T (by omega) (by omega) (kw_sh 61 (kw_mixX σ sX)) (by rw [kw_sh_mixX]; exact hM)  ) (by decide) (Nat.le_of_ble_eq_true rfl) rfl (fun _ _ q => by obtain ⟨-, r, rfl, -⟩ := q; exact fun _ _ => rfl) (fun v sM pM => ?_)
  obtain ⟨⟨IM, FM⟩, rM, rfl, eM⟩ := pM
  rw [kw_sh_mixX] at FM eM
  have AX : kw_I bX (kw_mixM (kw_mixX σ sX) sM) := kw_IX_mixM (kw_IX_mixX IX)
  have AM : kw_I (bM T) (kw_sh 61 (kw_mixM (kw_mixX σ sX) sM)) := by rw [kw_sh_mixM]; exact IM
  have Q := (show kr_R sX sM ∧ rX = rM from ⟨kr_R.fr hR FX FM (by decide) (by decide), kr_wet hR.2.1 hR.2.2.1 eX eM⟩)
  have AR : kr_R (kw_mixM (kw_mixX σ sX) sM) (kw_sh 61 (kw_mixM (kw_mixX σ sX) sM)) := by rw [kw_sh_mixM]; exact ⟨(Q.1).1.mix, (Q.1).2.1.mix, kr_D.mix (Q.1).2.1 (Q.1).2.2.1, (Q.1).2.2.2.mix⟩
  generalize (kw_mixM (kw_mixX σ sX) sM) = J at AX AM AR ⊢
  show kw_AW l 30 ((1002, L, xs) :: kw_E0) KJ mL_law kl_P 855 [(3, .int x3), (2, .ref 61), (1, .ref 0), (0, .ref 1002)] [.int rM] J
  refine kw_pop (pc := 855) (i := 521) (kl_a8 41 rfl) rfl ?_
  refine kw_goto (pc := 856) (i := 522) (tgt := 1359) (kl_a8 42 rfl) rfl ?_
  exact hnext J T AX AM AR (by omega) (by omega)
set_option maxRecDepth 100000 in
set_option maxHeartbeats 4000000 in
theorem kl_case23 (l : Launch) (L : Nat) (xs : Nat → Int32) (hL : L ≤ 384) (x3 : Int32) (h0 : 0 ≤ x3.toInt) (h1 : x3.toInt + 6 ≤ L) (σ : kw_S) (T : Int) (hX : kw_I bX σ) (hM : kw_I (bM T) (kw_sh 61 σ)) (hR : kr_R σ (kw_sh 61 σ)) (hT0 : 0 ≤ T) (hT1 : T ≤ 2000) (hnext : ∀ (S : kw_S) (T' : Int), kw_I bX S → kw_I (bM T') (kw_sh 61 S) → kr_R S (kw_sh 61 S) → 0 ≤ T' → T' ≤ T + 20 → kw_AW l 30 ((1002, L, xs) :: kw_E0) KJ mL_law kl_P 1359 [(3, .int x3), (2, .ref 61), (1, .ref 0), (0, .ref 1002)] [] S) : kw_AW l 30 ((1002, L, xs) :: kw_E0) KJ mL_law kl_P 859 [(3, .int x3), (2, .ref 61), (1, .ref 0), (0, .ref 1002)] [] σ := by
  have u1 : (x3 + 1).toInt = x3.toInt + 1 := by rw [kw_addI, show (1 : Int32).toInt = 1 from rfl]; omega
  have u2 : (x3 + 2).toInt = x3.toInt + 2 := by rw [kw_addI, show (2 : Int32).toInt = 2 from rfl]; omega
  have u3 : (x3 + 3).toInt = x3.toInt + 3 := by rw [kw_addI, show (3 : Int32).toInt = 3 from rfl]; omega
  have u4 : (x3 + 4).toInt = x3.toInt + 4 := by rw [kw_addI, show (4 : Int32).toInt = 4 from rfl]; omega
  have u5 : (x3 + 5).toInt = x3.toInt + 5 := by rw [kw_addI, show (5 : Int32).toInt = 5 from rfl]; omega
  refine kw_aload_n (pc := 859) (i := 523) (k := 2) (n := 1) (kl_a8 43 rfl) rfl rfl ?_
  refine kw_aload_n (pc := 860) (i := 524) (k := 3) (n := 0) (kl_a8 44 rfl) rfl rfl ?_
  refine kw_iload_n (pc := 861) (i := 525) (k := 0) (n := 3) (kl_a8 45 rfl) rfl rfl ?_
  refine kw_iconst (pc := 862) (i := 526) (v := 1) (kl_a8 46 rfl) rfl ?_
  refine kw_iadd (pc := 863) (i := 527) (kl_a8 47 rfl) (fun z1 e_z1 t_z1 => ?_)
  subst e_z1
  clear t_z1
  refine kw_tld (pc := 864) (i := 528) (k := 0) (n := L) (kl_a8 48 rfl) rfl (by omega) (by omega) (fun z2 e_z2 => ?_)
  subst e_z2
  refine kw_callX (pc := 865) (i := 529) (Y := mX7_sail) (xs := [xs (x3 + 1).toNatClampNeg]) (st := []) kl_hE (kl_a8 49 rfl) lvL_110 arX7_sail (c_X7_sail_0 l σ hX (xs (x3 + 1).toNatClampNeg) ) (by decide) (Nat.le_of_ble_eq_true rfl) rfl (fun v sX pX => ?_)
  obtain ⟨⟨IX, FX⟩, rX, rfl, eX⟩ := pX
  show kw_AW l 30 ((1002, L, xs) :: kw_E0) KJ mL_law kl_P 868 [(3, .int x3), (2, .ref 61), (1, .ref 0), (0, .ref 1002)] [.int rX] (kw_mixX σ sX)
  refine kw_pop (pc := 868) (i := 530) (kl_a8 50 rfl) rfl ?_
  refine kw_aload_n (pc := 869) (i := 531) (k := 1) (n := 2) (kl_a8 51 rfl) rfl rfl ?_
  refine kw_aload_n (pc := 870) (i := 532) (k := 3) (n := 0) (kl_a8 52 rfl) rfl rfl ?_
  refine kw_iload_n (pc := 871) (i := 533) (k := 0) (n := 3) (kl_a8 53 rfl) rfl rfl ?_
  refine kw_iconst (pc := 872) (i := 534) (v := 1) (kl_a8 54 rfl) rfl ?_
  refine kw_iadd (pc := 873) (i := 535) (kl_a8 55 rfl) (fun z3 e_z3 t_z3 => ?_)
  subst e_z3
  clear t_z3
  refine kw_tld (pc := 874) (i := 536) (k := 0) (n := L) (kl_a8 56 rfl) rfl (by omega) (by omega) (fun z4 e_z4 => ?_)
  subst e_z4
  refine kw_callM (pc := 875) (i := 537) (Y := mX8_sail) (xs := [xs (x3 + 1).toNatClampNeg]) (st := []) kl_hE (kl_a8 57 rfl) lvL_113 arX8_sail (c_X8_sail_0 l T (by omega) (by omega) (kw_sh 61 (kw_mixX σ sX)) (by rw [kw_sh_mixX]; exact hM) (xs (x3 + 1).toNatClampNeg) ) (by decide) (Nat.le_of_ble_eq_true rfl) rfl (fun _ _ q => by obtain ⟨-, r, rfl, -⟩ := q; exact fun _ _ => rfl) (fun v sM pM => ?_)
  obtain ⟨⟨IM, FM⟩, rM, rfl, eM⟩ := pM
  rw [kw_sh_mixX] at FM eM
  have AX : kw_I bX (kw_mixM (kw_mixX σ sX) sM) := kw_IX_mixM (kw_IX_mixX IX)
  have AM : kw_I (bM T) (kw_sh 61 (kw_mixM (kw_mixX σ sX) sM)) := by rw [kw_sh_mixM]; exact IM
  have Q := (show kr_R sX sM ∧ rX = rM from ⟨kr_R.fr hR FX FM (by decide) (by decide), (kr_sail hX hR.2.1 hR.2.2.1 hR.2.2.2 (xs (x3 + 1).toNatClampNeg) eX eM).1⟩)
  have AR : kr_R (kw_mixM (kw_mixX σ sX) sM) (kw_sh 61 (kw_mixM (kw_mixX σ sX) sM)) := by rw [kw_sh_mixM]; exact ⟨(Q.1).1.mix, (Q.1).2.1.mix, kr_D.mix (Q.1).2.1 (Q.1).2.2.1, (Q.1).2.2.2.mix⟩
  generalize (kw_mixM (kw_mixX σ sX) sM) = J at AX AM AR ⊢
  show kw_AW l 30 ((1002, L, xs) :: kw_E0) KJ mL_law kl_P 878 [(3, .int x3), (2, .ref 61), (1, .ref 0), (0, .ref 1002)] [.int rM] J
  refine kw_pop (pc := 878) (i := 538) (kl_a8 58 rfl) rfl ?_
  refine kw_goto (pc := 879) (i := 539) (tgt := 1359) (kl_a8 59 rfl) rfl ?_
  exact hnext J T AX AM AR (by omega) (by omega)
set_option maxRecDepth 100000 in
set_option maxHeartbeats 4000000 in
theorem kl_case24 (l : Launch) (L : Nat) (xs : Nat → Int32) (hL : L ≤ 384) (x3 : Int32) (h0 : 0 ≤ x3.toInt) (h1 : x3.toInt + 6 ≤ L) (σ : kw_S) (T : Int) (hX : kw_I bX σ) (hM : kw_I (bM T) (kw_sh 61 σ)) (hR : kr_R σ (kw_sh 61 σ)) (hT0 : 0 ≤ T) (hT1 : T ≤ 2000) (hnext : ∀ (S : kw_S) (T' : Int), kw_I bX S → kw_I (bM T') (kw_sh 61 S) → kr_R S (kw_sh 61 S) → 0 ≤ T' → T' ≤ T + 20 → kw_AW l 30 ((1002, L, xs) :: kw_E0) KJ mL_law kl_P 1359 [(3, .int x3), (2, .ref 61), (1, .ref 0), (0, .ref 1002)] [] S) : kw_AW l 30 ((1002, L, xs) :: kw_E0) KJ mL_law kl_P 882 [(3, .int x3), (2, .ref 61), (1, .ref 0), (0, .ref 1002)] [] σ := by
  have u1 : (x3 + 1).toInt = x3.toInt + 1 := by rw [kw_addI, show (1 : Int32).toInt = 1 from rfl]; omega
  have u2 : (x3 + 2).toInt = x3.toInt + 2 := by rw [kw_addI, show (2 : Int32).toInt = 2 from rfl]; omega
  have u3 : (x3 + 3).toInt = x3.toInt + 3 := by rw [kw_addI, show (3 : Int32).toInt = 3 from rfl]; omega
  have u4 : (x3 + 4).toInt = x3.toInt + 4 := by rw [kw_addI, show (4 : Int32).toInt = 4 from rfl]; omega
  have u5 : (x3 + 5).toInt = x3.toInt + 5 := by rw [kw_addI, show (5 : Int32).toInt = 5 from rfl]; omega
  refine kw_aload_n (pc := 882) (i := 540) (k := 2) (n := 1) (kl_a9 0 rfl) rfl rfl ?_
  refine kw_aload_n (pc := 883) (i := 541) (k := 3) (n := 0) (kl_a9 1 rfl) rfl rfl ?_
  refine kw_iload_n (pc := 884) (i := 542) (k := 0) (n := 3) (kl_a9 2 rfl) rfl rfl ?_
  refine kw_iconst (pc := 885) (i := 543) (v := 1) (kl_a9 3 rfl) rfl ?_
  refine kw_iadd (pc := 886) (i := 544) (kl_a9 4 rfl) (fun z1 e_z1 t_z1 => ?_)
  subst e_z1
  clear t_z1
  refine kw_tld (pc := 887) (i := 545) (k := 0) (n := L) (kl_a9 5 rfl) rfl (by omega) (by omega) (fun z2 e_z2 => ?_)
  subst e_z2
  refine kw_callX (pc := 888) (i := 546) (Y := mX7_dry) (xs := [xs (x3 + 1).toNatClampNeg]) (st := []) kl_hE (kl_a9 6 rfl) lvL_114 arX7_dry (c_X7_dry_0 l σ hX (xs (x3 + 1).toNatClampNeg) ) (by decide) (Nat.le_of_ble_eq_true rfl) rfl (fun v sX pX => ?_)
  obtain ⟨⟨IX, FX⟩, rX, rfl, eX⟩ := pX
  show kw_AW l 30 ((1002, L, xs) :: kw_E0) KJ mL_law kl_P 891 [(3, .int x3), (2, .ref 61), (1, .ref 0), (0, .ref 1002)] [.int rX] (kw_mixX σ sX)
  refine kw_pop (pc := 891) (i := 547) (kl_a9 7 rfl) rfl ?_
  refine kw_aload_n (pc := 892) (i := 548) (k := 1) (n := 2) (kl_a9 8 rfl) rfl rfl ?_
  refine kw_aload_n (pc := 893) (i := 549) (k := 3) (n := 0) (kl_a9 9 rfl) rfl rfl ?_
  refine kw_iload_n (pc := 894) (i := 550) (k := 0) (n := 3) (kl_a9 10 rfl) rfl rfl ?_
  refine kw_iconst (pc := 895) (i := 551) (v := 1) (kl_a9 11 rfl) rfl ?_
  refine kw_iadd (pc := 896) (i := 552) (kl_a9 12 rfl) (fun z3 e_z3 t_z3 => ?_)
  subst e_z3
  clear t_z3
  refine kw_tld (pc := 897) (i := 553) (k := 0) (n := L) (kl_a9 13 rfl) rfl (by omega) (by omega) (fun z4 e_z4 => ?_)
  subst e_z4
  refine kw_callM (pc := 898) (i := 554) (Y := mX8_dry) (xs := [xs (x3 + 1).toNatClampNeg]) (st := []) kl_hE (kl_a9 14 rfl) lvL_117 arX8_dry (c_X8_dry_0 l T (by omega) (by omega) (kw_sh 61 (kw_mixX σ sX)) (by rw [kw_sh_mixX]; exact hM) (xs (x3 + 1).toNatClampNeg) ) (by decide) (Nat.le_of_ble_eq_true rfl) rfl (fun _ _ q => by obtain ⟨-, r, rfl, -⟩ := q; exact fun _ _ => rfl) (fun v sM pM => ?_)
  obtain ⟨⟨IM, FM⟩, rM, rfl, eM⟩ := pM
  rw [kw_sh_mixX] at FM eM
  have AX : kw_I bX (kw_mixM (kw_mixX σ sX) sM) := kw_IX_mixM (kw_IX_mixX IX)
  have AM : kw_I (bM T) (kw_sh 61 (kw_mixM (kw_mixX σ sX) sM)) := by rw [kw_sh_mixM]; exact IM
  have Q := (show kr_R sX sM ∧ rX = rM from ⟨kr_R.fr hR FX FM (by decide) (by decide), (kr_dry hX hR.2.1 hR.2.2.1 hR.2.2.2 (xs (x3 + 1).toNatClampNeg) eX eM).1⟩)
  have AR : kr_R (kw_mixM (kw_mixX σ sX) sM) (kw_sh 61 (kw_mixM (kw_mixX σ sX) sM)) := by rw [kw_sh_mixM]; exact ⟨(Q.1).1.mix, (Q.1).2.1.mix, kr_D.mix (Q.1).2.1 (Q.1).2.2.1, (Q.1).2.2.2.mix⟩
  generalize (kw_mixM (kw_mixX σ sX) sM) = J at AX AM AR ⊢
  show kw_AW l 30 ((1002, L, xs) :: kw_E0) KJ mL_law kl_P 901 [(3, .int x3), (2, .ref 61), (1, .ref 0), (0, .ref 1002)] [.int rM] J
  refine kw_pop (pc := 901) (i := 555) (kl_a9 15 rfl) rfl ?_
  refine kw_goto (pc := 902) (i := 556) (tgt := 1359) (kl_a9 16 rfl) rfl ?_
  exact hnext J T AX AM AR (by omega) (by omega)
set_option maxRecDepth 100000 in
set_option maxHeartbeats 4000000 in
theorem kl_case25 (l : Launch) (L : Nat) (xs : Nat → Int32) (hL : L ≤ 384) (x3 : Int32) (h0 : 0 ≤ x3.toInt) (h1 : x3.toInt + 6 ≤ L) (σ : kw_S) (T : Int) (hX : kw_I bX σ) (hM : kw_I (bM T) (kw_sh 61 σ)) (hR : kr_R σ (kw_sh 61 σ)) (hT0 : 0 ≤ T) (hT1 : T ≤ 2000) (hnext : ∀ (S : kw_S) (T' : Int), kw_I bX S → kw_I (bM T') (kw_sh 61 S) → kr_R S (kw_sh 61 S) → 0 ≤ T' → T' ≤ T + 20 → kw_AW l 30 ((1002, L, xs) :: kw_E0) KJ mL_law kl_P 1359 [(3, .int x3), (2, .ref 61), (1, .ref 0), (0, .ref 1002)] [] S) : kw_AW l 30 ((1002, L, xs) :: kw_E0) KJ mL_law kl_P 905 [(3, .int x3), (2, .ref 61), (1, .ref 0), (0, .ref 1002)] [] σ := by
  have u1 : (x3 + 1).toInt = x3.toInt + 1 := by rw [kw_addI, show (1 : Int32).toInt = 1 from rfl]; omega
  have u2 : (x3 + 2).toInt = x3.toInt + 2 := by rw [kw_addI, show (2 : Int32).toInt = 2 from rfl]; omega
  have u3 : (x3 + 3).toInt = x3.toInt + 3 := by rw [kw_addI, show (3 : Int32).toInt = 3 from rfl]; omega
  have u4 : (x3 + 4).toInt = x3.toInt + 4 := by rw [kw_addI, show (4 : Int32).toInt = 4 from rfl]; omega
  have u5 : (x3 + 5).toInt = x3.toInt + 5 := by rw [kw_addI, show (5 : Int32).toInt = 5 from rfl]; omega
  refine kw_aload_n (pc := 905) (i := 557) (k := 2) (n := 1) (kl_a9 17 rfl) rfl rfl ?_
  refine kw_aload_n (pc := 906) (i := 558) (k := 3) (n := 0) (kl_a9 18 rfl) rfl rfl ?_
  refine kw_iload_n (pc := 907) (i := 559) (k := 0) (n := 3) (kl_a9 19 rfl) rfl rfl ?_
  refine kw_iconst (pc := 908) (i := 560) (v := 1) (kl_a9 20 rfl) rfl ?_
  refine kw_iadd (pc := 909) (i := 561) (kl_a9 21 rfl) (fun z1 e_z1 t_z1 => ?_)
  subst e_z1
  clear t_z1
  refine kw_tld (pc := 910) (i := 562) (k := 0) (n := L) (kl_a9 22 rfl) rfl (by omega) (by omega) (fun z2 e_z2 => ?_)
  subst e_z2
  refine kw_aload_n (pc := 911) (i := 563) (k := 3) (n := 0) (kl_a9 23 rfl) rfl rfl ?_
  refine kw_iload_n (pc := 912) (i := 564) (k := 0) (n := 3) (kl_a9 24 rfl) rfl rfl ?_
  refine kw_iconst (pc := 913) (i := 565) (v := 2) (kl_a9 25 rfl) rfl ?_
  refine kw_iadd (pc := 914) (i := 566) (kl_a9 26 rfl) (fun z3 e_z3 t_z3 => ?_)
  subst e_z3
  clear t_z3
  refine kw_tld (pc := 915) (i := 567) (k := 0) (n := L) (kl_a9 27 rfl) rfl (by omega) (by omega) (fun z4 e_z4 => ?_)
  subst e_z4
  refine kw_aload_n (pc := 916) (i := 568) (k := 3) (n := 0) (kl_a9 28 rfl) rfl rfl ?_
  refine kw_iload_n (pc := 917) (i := 569) (k := 0) (n := 3) (kl_a9 29 rfl) rfl rfl ?_
  refine kw_iconst (pc := 918) (i := 570) (v := 3) (kl_a9 30 rfl) rfl ?_
  refine kw_iadd (pc := 919) (i := 571) (kl_a9 31 rfl) (fun z5 e_z5 t_z5 => ?_)
  subst e_z5
  clear t_z5
  refine kw_tld (pc := 920) (i := 572) (k := 0) (n := L) (kl_a9 32 rfl) rfl (by omega) (by omega) (fun z6 e_z6 => ?_)
  subst e_z6
  refine kw_callX (pc := 921) (i := 573) (Y := mX7_far) (xs := [xs (x3 + 1).toNatClampNeg, xs (x3 + 2).toNatClampNeg, xs (x3 + 3).toNatClampNeg]) (st := []) kl_hE (kl_a9 33 rfl) lvL_118 arX7_far (c_X7_far_0 l σ hX (xs (x3 + 1).toNatClampNeg) (xs (x3 + 2).toNatClampNeg) (xs (x3 + 3).toNatClampNeg) ) (by decide) (Nat.le_of_ble_eq_true rfl) rfl (fun v sX pX => ?_)
  obtain ⟨⟨IX, FX⟩, rX, rfl, eX⟩ := pX
  show kw_AW l 30 ((1002, L, xs) :: kw_E0) KJ mL_law kl_P 924 [(3, .int x3), (2, .ref 61), (1, .ref 0), (0, .ref 1002)] [.int rX] (kw_mixX σ sX)
  refine kw_pop (pc := 924) (i := 574) (kl_a9 34 rfl) rfl ?_
  refine kw_aload_n (pc := 925) (i := 575) (k := 1) (n := 2) (kl_a9 35 rfl) rfl rfl ?_
  refine kw_aload_n (pc := 926) (i := 576) (k := 3) (n := 0) (kl_a9 36 rfl) rfl rfl ?_
  refine kw_iload_n (pc := 927) (i := 577) (k := 0) (n := 3) (kl_a9 37 rfl) rfl rfl ?_
  refine kw_iconst (pc := 928) (i := 578) (v := 1) (kl_a9 38 rfl) rfl ?_
  refine kw_iadd (pc := 929) (i := 579) (kl_a9 39 rfl) (fun z7 e_z7 t_z7 => ?_)
  subst e_z7
  clear t_z7
  refine kw_tld (pc := 930) (i := 580) (k := 0) (n := L) (kl_a9 40 rfl) rfl (by omega) (by omega) (fun z8 e_z8 => ?_)
  subst e_z8
  refine kw_aload_n (pc := 931) (i := 581) (k := 3) (n := 0) (kl_a9 41 rfl) rfl rfl ?_
  refine kw_iload_n (pc := 932) (i := 582) (k := 0) (n := 3) (kl_a9 42 rfl) rfl rfl ?_
  refine kw_iconst (pc := 933) (i := 583) (v := 2) (kl_a9 43 rfl) rfl ?_
  refine kw_iadd (pc := 934) (i := 584) (kl_a9 44 rfl) (fun z9 e_z9 t_z9 => ?_)
  subst e_z9
  clear t_z9
  refine kw_tld (pc := 935) (i := 585) (k := 0) (n := L) (kl_a9 45 rfl) rfl (by omega) (by omega) (fun z10 e_z10 => ?_)
  subst e_z10
  refine kw_aload_n (pc := 936) (i := 586) (k := 3) (n := 0) (kl_a9 46 rfl) rfl rfl ?_
  refine kw_iload_n (pc := 937) (i := 587) (k := 0) (n := 3) (kl_a9 47 rfl) rfl rfl ?_
  refine kw_iconst (pc := 938) (i := 588) (v := 3) (kl_a9 48 rfl) rfl ?_
  refine kw_iadd (pc := 939) (i := 589) (kl_a9 49 rfl) (fun z11 e_z11 t_z11 => ?_)
  subst e_z11
  clear t_z11
  refine kw_tld (pc := 940) (i := 590) (k := 0) (n := L) (kl_a9 50 rfl) rfl (by omega) (by omega) (fun z12 e_z12 => ?_)
  subst e_z12
  refine kw_callM (pc := 941) (i := 591) (Y := mX8_far) (xs := [xs (x3 + 1).toNatClampNeg, xs (x3 + 2).toNatClampNeg, xs (x3 + 3).toNatClampNeg]) (st := []) kl_hE (kl_a9 51 rfl) lvL_121 arX8_far (c_X8_far_0 l T (by omega) (by omega) (kw_sh 61 (kw_mixX σ sX)) (by rw [kw_sh_mixX]; exact hM) (xs (x3 + 1).toNatClampNeg) (xs (x3 + 2).toNatClampNeg) (xs (x3 + 3).toNatClampNeg) ) (by decide) (Nat.le_of_ble_eq_true rfl) rfl (fun _ _ q => by obtain ⟨-, r, rfl, -⟩ := q; exact fun _ _ => rfl) (fun v sM pM => ?_)
  obtain ⟨⟨IM, FM⟩, rM, rfl, eM⟩ := pM
  rw [kw_sh_mixX] at FM eM
  have AX : kw_I bX (kw_mixM (kw_mixX σ sX) sM) := kw_IX_mixM (kw_IX_mixX IX)
  have AM : kw_I (bM T) (kw_sh 61 (kw_mixM (kw_mixX σ sX) sM)) := by rw [kw_sh_mixM]; exact IM
  have Q := (show kr_R sX sM ∧ rX = rM from ⟨⟨hR.1.fr FX FM (by decide) (by decide), hR.2.1.fr FX FM (by decide) (by decide), hR.2.2.1.fr hR.2.1 FX FM (by decide) (by decide), (kr_far hX hR.2.1 hR.2.2.1 hR.2.2.2 (xs (x3 + 1).toNatClampNeg) (xs (x3 + 2).toNatClampNeg) (xs (x3 + 3).toNatClampNeg) eX eM).1⟩, (kr_far hX hR.2.1 hR.2.2.1 hR.2.2.2 (xs (x3 + 1).toNatClampNeg) (xs (x3 + 2).toNatClampNeg) (xs (x3 + 3).toNatClampNeg) eX eM).2.1⟩)
  have AR : kr_R (kw_mixM (kw_mixX σ sX) sM) (kw_sh 61 (kw_mixM (kw_mixX σ sX) sM)) := by rw [kw_sh_mixM]; exact ⟨(Q.1).1.mix, (Q.1).2.1.mix, kr_D.mix (Q.1).2.1 (Q.1).2.2.1, (Q.1).2.2.2.mix⟩
  generalize (kw_mixM (kw_mixX σ sX) sM) = J at AX AM AR ⊢
  show kw_AW l 30 ((1002, L, xs) :: kw_E0) KJ mL_law kl_P 944 [(3, .int x3), (2, .ref 61), (1, .ref 0), (0, .ref 1002)] [.int rM] J
  refine kw_pop (pc := 944) (i := 592) (kl_a9 52 rfl) rfl ?_
  refine kw_goto (pc := 945) (i := 593) (tgt := 1359) (kl_a9 53 rfl) rfl ?_
  exact hnext J T AX AM AR (by omega) (by omega)
set_option maxRecDepth 100000 in
set_option maxHeartbeats 4000000 in
theorem kl_case26 (l : Launch) (L : Nat) (xs : Nat → Int32) (hL : L ≤ 384) (x3 : Int32) (h0 : 0 ≤ x3.toInt) (h1 : x3.toInt + 6 ≤ L) (σ : kw_S) (T : Int) (hX : kw_I bX σ) (hM : kw_I (bM T) (kw_sh 61 σ)) (hR : kr_R σ (kw_sh 61 σ)) (hT0 : 0 ≤ T) (hT1 : T ≤ 2000) (hnext : ∀ (S : kw_S) (T' : Int), kw_I bX S → kw_I (bM T') (kw_sh 61 S) → kr_R S (kw_sh 61 S) → 0 ≤ T' → T' ≤ T + 20 → kw_AW l 30 ((1002, L, xs) :: kw_E0) KJ mL_law kl_P 1359 [(3, .int x3), (2, .ref 61), (1, .ref 0), (0, .ref 1002)] [] S) : kw_AW l 30 ((1002, L, xs) :: kw_E0) KJ mL_law kl_P 948 [(3, .int x3), (2, .ref 61), (1, .ref 0), (0, .ref 1002)] [] σ := by
  have u1 : (x3 + 1).toInt = x3.toInt + 1 := by rw [kw_addI, show (1 : Int32).toInt = 1 from rfl]; omega
  have u2 : (x3 + 2).toInt = x3.toInt + 2 := by rw [kw_addI, show (2 : Int32).toInt = 2 from rfl]; omega
  have u3 : (x3 + 3).toInt = x3.toInt + 3 := by rw [kw_addI, show (3 : Int32).toInt = 3 from rfl]; omega
  have u4 : (x3 + 4).toInt = x3.toInt + 4 := by rw [kw_addI, show (4 : Int32).toInt = 4 from rfl]; omega
  have u5 : (x3 + 5).toInt = x3.toInt + 5 := by rw [kw_addI, show (5 : Int32).toInt = 5 from rfl]; omega
  refine kw_aload_n (pc := 948) (i := 594) (k := 2) (n := 1) (kl_a9 54 rfl) rfl rfl ?_
  refine kw_aload_n (pc := 949) (i := 595) (k := 3) (n := 0) (kl_a9 55 rfl) rfl rfl ?_
  refine kw_iload_n (pc := 950) (i := 596) (k := 0) (n := 3) (kl_a9 56 rfl) rfl rfl ?_
  refine kw_iconst (pc := 951) (i := 597) (v := 1) (kl_a9 57 rfl) rfl ?_
  refine kw_iadd (pc := 952) (i := 598) (kl_a9 58 rfl) (fun z1 e_z1 t_z1 => ?_)
  subst e_z1
  clear t_z1
  refine kw_tld (pc := 953) (i := 599) (k := 0) (n := L) (kl_a9 59 rfl) rfl (by omega) (by omega) (fun z2 e_z2 => ?_)
  subst e_z2
  refine kw_callX (pc := 954) (i := 600) (Y := mX7_soon) (xs := [xs (x3 + 1).toNatClampNeg]) (st := []) kl_hE (kl_a10 0 rfl) lvL_122 arX7_soon (c_X7_soon_0 l σ hX (xs (x3 + 1).toNatClampNeg) ) (by decide) (Nat.le_of_ble_eq_true rfl) rfl (fun v sX pX => ?_)
  obtain ⟨gX, rX, rfl, eX⟩ := pX
  have IX : kw_I bX sX := by rw [gX]; exact hX
  have FX : kw_F [] σ sX := by rw [gX]; exact kw_F.rf
  show kw_AW l 30 ((1002, L, xs) :: kw_E0) KJ mL_law kl_P 957 [(3, .int x3), (2, .ref 61), (1, .ref 0), (0, .ref 1002)] [.int rX] (kw_mixX σ sX)
  refine kw_pop (pc := 957) (i := 601) (kl_a10 1 rfl) rfl ?_
  refine kw_aload_n (pc := 958) (i := 602) (k := 1) (n := 2) (kl_a10 2 rfl) rfl rfl ?_
  refine kw_aload_n (pc := 959) (i := 603) (k := 3) (n := 0) (kl_a10 3 rfl) rfl rfl ?_
  refine kw_iload_n (pc := 960) (i := 604) (k := 0) (n := 3) (kl_a10 4 rfl) rfl rfl ?_
  refine kw_iconst (pc := 961) (i := 605) (v := 1) (kl_a10 5 rfl) rfl ?_
  refine kw_iadd (pc := 962) (i := 606) (kl_a10 6 rfl) (fun z3 e_z3 t_z3 => ?_)
  subst e_z3
  clear t_z3
  refine kw_tld (pc := 963) (i := 607) (k := 0) (n := L) (kl_a10 7 rfl) rfl (by omega) (by omega) (fun z4 e_z4 => ?_)
  subst e_z4
  refine kw_callM (pc := 964) (i := 608) (Y := mX8_soon) (xs := [xs (x3 + 1).toNatClampNeg]) (st := []) kl_hE (kl_a10 8 rfl) lvL_125 arX8_soon (c_X8_soon_0 l T (by omega) (by omega) (kw_sh 61 (kw_mixX σ sX)) (by rw [kw_sh_mixX]; exact hM) (xs (x3 + 1).toNatClampNeg) ) (by decide) (Nat.le_of_ble_eq_true rfl) rfl (fun _ _ q => by obtain ⟨-, r, rfl, -⟩ := q; exact fun _ _ => rfl) (fun v sM pM => ?_)
  obtain ⟨⟨IM, FM⟩, rM, rfl, eM⟩ := pM
  rw [kw_sh_mixX] at FM eM
  have AX : kw_I bX (kw_mixM (kw_mixX σ sX) sM) := kw_IX_mixM (kw_IX_mixX IX)
  have AM : kw_I (bM T) (kw_sh 61 (kw_mixM (kw_mixX σ sX) sM)) := by rw [kw_sh_mixM]; exact IM
  have Q := (show kr_R sX sM ∧ rX = rM from ⟨kr_R.fr hR FX FM (by decide) (by decide), kr_soon hR.2.1 hR.2.2.1 (xs (x3 + 1).toNatClampNeg) eX eM⟩)
  have AR : kr_R (kw_mixM (kw_mixX σ sX) sM) (kw_sh 61 (kw_mixM (kw_mixX σ sX) sM)) := by rw [kw_sh_mixM]; exact ⟨(Q.1).1.mix, (Q.1).2.1.mix, kr_D.mix (Q.1).2.1 (Q.1).2.2.1, (Q.1).2.2.2.mix⟩
  generalize (kw_mixM (kw_mixX σ sX) sM) = J at AX AM AR ⊢
  show kw_AW l 30 ((1002, L, xs) :: kw_E0) KJ mL_law kl_P 967 [(3, .int x3), (2, .ref 61), (1, .ref 0), (0, .ref 1002)] [.int rM] J
  refine kw_pop (pc := 967) (i := 609) (kl_a10 9 rfl) rfl ?_
  refine kw_goto (pc := 968) (i := 610) (tgt := 1359) (kl_a10 10 rfl) rfl ?_
  exact hnext J T AX AM AR (by omega) (by omega)
set_option maxRecDepth 100000 in
set_option maxHeartbeats 4000000 in
theorem kl_case27 (l : Launch) (L : Nat) (xs : Nat → Int32) (hL : L ≤ 384) (x3 : Int32) (h0 : 0 ≤ x3.toInt) (h1 : x3.toInt + 6 ≤ L) (σ : kw_S) (T : Int) (hX : kw_I bX σ) (hM : kw_I (bM T) (kw_sh 61 σ)) (hR : kr_R σ (kw_sh 61 σ)) (hT0 : 0 ≤ T) (hT1 : T ≤ 2000) (hnext : ∀ (S : kw_S) (T' : Int), kw_I bX S → kw_I (bM T') (kw_sh 61 S) → kr_R S (kw_sh 61 S) → 0 ≤ T' → T' ≤ T + 20 → kw_AW l 30 ((1002, L, xs) :: kw_E0) KJ mL_law kl_P 1359 [(3, .int x3), (2, .ref 61), (1, .ref 0), (0, .ref 1002)] [] S) : kw_AW l 30 ((1002, L, xs) :: kw_E0) KJ mL_law kl_P 971 [(3, .int x3), (2, .ref 61), (1, .ref 0), (0, .ref 1002)] [] σ := by
  have u1 : (x3 + 1).toInt = x3.toInt + 1 := by rw [kw_addI, show (1 : Int32).toInt = 1 from rfl]; omega
  have u2 : (x3 + 2).toInt = x3.toInt + 2 := by rw [kw_addI, show (2 : Int32).toInt = 2 from rfl]; omega
  have u3 : (x3 + 3).toInt = x3.toInt + 3 := by rw [kw_addI, show (3 : Int32).toInt = 3 from rfl]; omega
  have u4 : (x3 + 4).toInt = x3.toInt + 4 := by rw [kw_addI, show (4 : Int32).toInt = 4 from rfl]; omega
  have u5 : (x3 + 5).toInt = x3.toInt + 5 := by rw [kw_addI, show (5 : Int32).toInt = 5 from rfl]; omega
  refine kw_aload_n (pc := 971) (i := 611) (k := 2) (n := 1) (kl_a10 11 rfl) rfl rfl ?_
  refine kw_aload_n (pc := 972) (i := 612) (k := 3) (n := 0) (kl_a10 12 rfl) rfl rfl ?_
  refine kw_iload_n (pc := 973) (i := 613) (k := 0) (n := 3) (kl_a10 13 rfl) rfl rfl ?_
  refine kw_iconst (pc := 974) (i := 614) (v := 1) (kl_a10 14 rfl) rfl ?_
  refine kw_iadd (pc := 975) (i := 615) (kl_a10 15 rfl) (fun z1 e_z1 t_z1 => ?_)
  subst e_z1
  clear t_z1
  refine kw_tld (pc := 976) (i := 616) (k := 0) (n := L) (kl_a10 16 rfl) rfl (by omega) (by omega) (fun z2 e_z2 => ?_)
  subst e_z2
  refine kw_aload_n (pc := 977) (i := 617) (k := 3) (n := 0) (kl_a10 17 rfl) rfl rfl ?_
  refine kw_iload_n (pc := 978) (i := 618) (k := 0) (n := 3) (kl_a10 18 rfl) rfl rfl ?_
  refine kw_iconst (pc := 979) (i := 619) (v := 2) (kl_a10 19 rfl) rfl ?_
  refine kw_iadd (pc := 980) (i := 620) (kl_a10 20 rfl) (fun z3 e_z3 t_z3 => ?_)
  subst e_z3
  clear t_z3
  refine kw_tld (pc := 981) (i := 621) (k := 0) (n := L) (kl_a10 21 rfl) rfl (by omega) (by omega) (fun z4 e_z4 => ?_)
  subst e_z4
  refine kw_callX (pc := 982) (i := 622) (Y := mX7_least) (xs := [xs (x3 + 1).toNatClampNeg, xs (x3 + 2).toNatClampNeg]) (st := []) kl_hE (kl_a10 22 rfl) lvL_126 arX7_least (c_X7_least_0 l σ hX (xs (x3 + 1).toNatClampNeg) (xs (x3 + 2).toNatClampNeg) ) (by decide) (Nat.le_of_ble_eq_true rfl) rfl (fun v sX pX => ?_)
  obtain ⟨gX, rX, rfl, eX⟩ := pX
  have IX : kw_I bX sX := by rw [gX]; exact hX
  have FX : kw_F [] σ sX := by rw [gX]; exact kw_F.rf
  show kw_AW l 30 ((1002, L, xs) :: kw_E0) KJ mL_law kl_P 985 [(3, .int x3), (2, .ref 61), (1, .ref 0), (0, .ref 1002)] [.int rX] (kw_mixX σ sX)
  refine kw_pop (pc := 985) (i := 623) (kl_a10 23 rfl) rfl ?_
  refine kw_aload_n (pc := 986) (i := 624) (k := 1) (n := 2) (kl_a10 24 rfl) rfl rfl ?_
  refine kw_aload_n (pc := 987) (i := 625) (k := 3) (n := 0) (kl_a10 25 rfl) rfl rfl ?_
  refine kw_iload_n (pc := 988) (i := 626) (k := 0) (n := 3) (kl_a10 26 rfl) rfl rfl ?_
  refine kw_iconst (pc := 989) (i := 627) (v := 1) (kl_a10 27 rfl) rfl ?_
  refine kw_iadd (pc := 990) (i := 628) (kl_a10 28 rfl) (fun z5 e_z5 t_z5 => ?_)
  subst e_z5
  clear t_z5
  refine kw_tld (pc := 991) (i := 629) (k := 0) (n := L) (kl_a10 29 rfl) rfl (by omega) (by omega) (fun z6 e_z6 => ?_)
  subst e_z6
  refine kw_aload_n (pc := 992) (i := 630) (k := 3) (n := 0) (kl_a10 30 rfl) rfl rfl ?_
  refine kw_iload_n (pc := 993) (i := 631) (k := 0) (n := 3) (kl_a10 31 rfl) rfl rfl ?_
  refine kw_iconst (pc := 994) (i := 632) (v := 2) (kl_a10 32 rfl) rfl ?_
  refine kw_iadd (pc := 995) (i := 633) (kl_a10 33 rfl) (fun z7 e_z7 t_z7 => ?_)
  subst e_z7
  clear t_z7
  refine kw_tld (pc := 996) (i := 634) (k := 0) (n := L) (kl_a10 34 rfl) rfl (by omega) (by omega) (fun z8 e_z8 => ?_)
  subst e_z8
  refine kw_callM (pc := 997) (i := 635) (Y := mX8_least) (xs := [xs (x3 + 1).toNatClampNeg, xs (x3 + 2).toNatClampNeg]) (st := []) kl_hE (kl_a10 35 rfl) lvL_129 arX8_least (c_X8_least_0 l T (by omega) (by omega) (kw_sh 61 (kw_mixX σ sX)) (by rw [kw_sh_mixX]; exact hM) (xs (x3 + 1).toNatClampNeg) (xs (x3 + 2).toNatClampNeg) ) (by decide) (Nat.le_of_ble_eq_true rfl) rfl (fun _ _ q => by obtain ⟨-, r, rfl, -⟩ := q; exact fun _ _ => rfl) (fun v sM pM => ?_)
  obtain ⟨⟨IM, FM⟩, rM, rfl, eM⟩ := pM
  rw [kw_sh_mixX] at FM eM
  have AX : kw_I bX (kw_mixM (kw_mixX σ sX) sM) := kw_IX_mixM (kw_IX_mixX IX)
  have AM : kw_I (bM T) (kw_sh 61 (kw_mixM (kw_mixX σ sX) sM)) := by rw [kw_sh_mixM]; exact IM
  have Q := kr_R.fr hR FX FM (by decide) (by decide)
  have AR : kr_R (kw_mixM (kw_mixX σ sX) sM) (kw_sh 61 (kw_mixM (kw_mixX σ sX) sM)) := by rw [kw_sh_mixM]; exact ⟨(Q).1.mix, (Q).2.1.mix, kr_D.mix (Q).2.1 (Q).2.2.1, (Q).2.2.2.mix⟩
  generalize (kw_mixM (kw_mixX σ sX) sM) = J at AX AM AR ⊢
  show kw_AW l 30 ((1002, L, xs) :: kw_E0) KJ mL_law kl_P 1000 [(3, .int x3), (2, .ref 61), (1, .ref 0), (0, .ref 1002)] [.int rM] J
  refine kw_pop (pc := 1000) (i := 636) (kl_a10 36 rfl) rfl ?_
  refine kw_goto (pc := 1001) (i := 637) (tgt := 1359) (kl_a10 37 rfl) rfl ?_
  exact hnext J T AX AM AR (by omega) (by omega)
set_option maxRecDepth 100000 in
set_option maxHeartbeats 4000000 in
theorem kl_case28 (l : Launch) (L : Nat) (xs : Nat → Int32) (hL : L ≤ 384) (x3 : Int32) (h0 : 0 ≤ x3.toInt) (h1 : x3.toInt + 6 ≤ L) (σ : kw_S) (T : Int) (hX : kw_I bX σ) (hM : kw_I (bM T) (kw_sh 61 σ)) (hR : kr_R σ (kw_sh 61 σ)) (hT0 : 0 ≤ T) (hT1 : T ≤ 2000) (hnext : ∀ (S : kw_S) (T' : Int), kw_I bX S → kw_I (bM T') (kw_sh 61 S) → kr_R S (kw_sh 61 S) → 0 ≤ T' → T' ≤ T + 20 → kw_AW l 30 ((1002, L, xs) :: kw_E0) KJ mL_law kl_P 1359 [(3, .int x3), (2, .ref 61), (1, .ref 0), (0, .ref 1002)] [] S) : kw_AW l 30 ((1002, L, xs) :: kw_E0) KJ mL_law kl_P 1004 [(3, .int x3), (2, .ref 61), (1, .ref 0), (0, .ref 1002)] [] σ := by
  have u1 : (x3 + 1).toInt = x3.toInt + 1 := by rw [kw_addI, show (1 : Int32).toInt = 1 from rfl]; omega
  have u2 : (x3 + 2).toInt = x3.toInt + 2 := by rw [kw_addI, show (2 : Int32).toInt = 2 from rfl]; omega
  have u3 : (x3 + 3).toInt = x3.toInt + 3 := by rw [kw_addI, show (3 : Int32).toInt = 3 from rfl]; omega
  have u4 : (x3 + 4).toInt = x3.toInt + 4 := by rw [kw_addI, show (4 : Int32).toInt = 4 from rfl]; omega
  have u5 : (x3 + 5).toInt = x3.toInt + 5 := by rw [kw_addI, show (5 : Int32).toInt = 5 from rfl]; omega
  refine kw_aload_n (pc := 1004) (i := 638) (k := 2) (n := 1) (kl_a10 38 rfl) rfl rfl ?_
  refine kw_aload_n (pc := 1005) (i := 639) (k := 3) (n := 0) (kl_a10 39 rfl) rfl rfl ?_
  refine kw_iload_n (pc := 1006) (i := 640) (k := 0) (n := 3) (kl_a10 40 rfl) rfl rfl ?_
  refine kw_iconst (pc := 1007) (i := 641) (v := 1) (kl_a10 41 rfl) rfl ?_
  refine kw_iadd (pc := 1008) (i := 642) (kl_a10 42 rfl) (fun z1 e_z1 t_z1 => ?_)
  subst e_z1
  clear t_z1
  refine kw_tld (pc := 1009) (i := 643) (k := 0) (n := L) (kl_a10 43 rfl) rfl (by omega) (by omega) (fun z2 e_z2 => ?_)
  subst e_z2
  refine kw_aload_n (pc := 1010) (i := 644) (k := 3) (n := 0) (kl_a10 44 rfl) rfl rfl ?_
  refine kw_iload_n (pc := 1011) (i := 645) (k := 0) (n := 3) (kl_a10 45 rfl) rfl rfl ?_
  refine kw_iconst (pc := 1012) (i := 646) (v := 2) (kl_a10 46 rfl) rfl ?_
  refine kw_iadd (pc := 1013) (i := 647) (kl_a10 47 rfl) (fun z3 e_z3 t_z3 => ?_)
  subst e_z3
  clear t_z3
  refine kw_tld (pc := 1014) (i := 648) (k := 0) (n := L) (kl_a10 48 rfl) rfl (by omega) (by omega) (fun z4 e_z4 => ?_)
  subst e_z4
  refine kw_callX (pc := 1015) (i := 649) (Y := mX7_ways) (xs := [xs (x3 + 1).toNatClampNeg, xs (x3 + 2).toNatClampNeg]) (st := []) kl_hE (kl_a10 49 rfl) lvL_130 arX7_ways (c_X7_ways_0 l σ hX (xs (x3 + 1).toNatClampNeg) (xs (x3 + 2).toNatClampNeg) ) (by decide) (Nat.le_of_ble_eq_true rfl) rfl (fun v sX pX => ?_)
  obtain ⟨⟨IX, FX⟩, rX, rfl, f5, eX⟩ := pX
  show kw_AW l 30 ((1002, L, xs) :: kw_E0) KJ mL_law kl_P 1018 [(3, .int x3), (2, .ref 61), (1, .ref 0), (0, .ref 1002)] [.int rX] (kw_mixX σ sX)
  refine kw_pop (pc := 1018) (i := 650) (kl_a10 50 rfl) rfl ?_
  refine kw_aload_n (pc := 1019) (i := 651) (k := 1) (n := 2) (kl_a10 51 rfl) rfl rfl ?_
  refine kw_aload_n (pc := 1020) (i := 652) (k := 3) (n := 0) (kl_a10 52 rfl) rfl rfl ?_
  refine kw_iload_n (pc := 1021) (i := 653) (k := 0) (n := 3) (kl_a10 53 rfl) rfl rfl ?_
  refine kw_iconst (pc := 1022) (i := 654) (v := 1) (kl_a10 54 rfl) rfl ?_
  refine kw_iadd (pc := 1023) (i := 655) (kl_a10 55 rfl) (fun z6 e_z6 t_z6 => ?_)
  subst e_z6
  clear t_z6
  refine kw_tld (pc := 1024) (i := 656) (k := 0) (n := L) (kl_a10 56 rfl) rfl (by omega) (by omega) (fun z7 e_z7 => ?_)
  subst e_z7
  refine kw_aload_n (pc := 1025) (i := 657) (k := 3) (n := 0) (kl_a10 57 rfl) rfl rfl ?_
  refine kw_iload_n (pc := 1026) (i := 658) (k := 0) (n := 3) (kl_a10 58 rfl) rfl rfl ?_
  refine kw_iconst (pc := 1027) (i := 659) (v := 2) (kl_a10 59 rfl) rfl ?_
  refine kw_iadd (pc := 1028) (i := 660) (kl_a11 0 rfl) (fun z8 e_z8 t_z8 => ?_)
  subst e_z8
  clear t_z8
  refine kw_tld (pc := 1029) (i := 661) (k := 0) (n := L) (kl_a11 1 rfl) rfl (by omega) (by omega) (fun z9 e_z9 => ?_)
  subst e_z9
  refine kw_callM (pc := 1030) (i := 662) (Y := mX8_ways) (xs := [xs (x3 + 1).toNatClampNeg, xs (x3 + 2).toNatClampNeg]) (st := []) kl_hE (kl_a11 2 rfl) lvL_133 arX8_ways (c_X8_ways_0 l T (by omega) (by omega) (kw_sh 61 (kw_mixX σ sX)) (by rw [kw_sh_mixX]; exact hM) (xs (x3 + 1).toNatClampNeg) (xs (x3 + 2).toNatClampNeg) ) (by decide) (Nat.le_of_ble_eq_true rfl) rfl (fun _ _ q => by obtain ⟨-, r, rfl, -⟩ := q; exact fun _ _ => rfl) (fun v sM pM => ?_)
  obtain ⟨⟨IM, FM⟩, rM, rfl, f10, eM⟩ := pM
  rw [kw_sh_mixX] at FM eM
  first | rw [kw_sh_mixX] at f10 | skip
  have AX : kw_I bX (kw_mixM (kw_mixX σ sX) sM) := kw_IX_mixM (kw_IX_mixX IX)
  have AM : kw_I (bM T) (kw_sh 61 (kw_mixM (kw_mixX σ sX) sM)) := by rw [kw_sh_mixM]; exact IM
  have Q := kr_R.fr hR FX FM (by decide) (by decide)
  have AR : kr_R (kw_mixM (kw_mixX σ sX) sM) (kw_sh 61 (kw_mixM (kw_mixX σ sX) sM)) := by rw [kw_sh_mixM]; exact ⟨(Q).1.mix, (Q).2.1.mix, kr_D.mix (Q).2.1 (Q).2.2.1, (Q).2.2.2.mix⟩
  generalize (kw_mixM (kw_mixX σ sX) sM) = J at AX AM AR ⊢
  show kw_AW l 30 ((1002, L, xs) :: kw_E0) KJ mL_law kl_P 1033 [(3, .int x3), (2, .ref 61), (1, .ref 0), (0, .ref 1002)] [.int rM] J
  refine kw_pop (pc := 1033) (i := 663) (kl_a11 3 rfl) rfl ?_
  refine kw_goto (pc := 1034) (i := 664) (tgt := 1359) (kl_a11 4 rfl) rfl ?_
  exact hnext J T AX AM AR (by omega) (by omega)
set_option maxRecDepth 100000 in
set_option maxHeartbeats 4000000 in
theorem kl_case29 (l : Launch) (L : Nat) (xs : Nat → Int32) (hL : L ≤ 384) (x3 : Int32) (h0 : 0 ≤ x3.toInt) (h1 : x3.toInt + 6 ≤ L) (σ : kw_S) (T : Int) (hX : kw_I bX σ) (hM : kw_I (bM T) (kw_sh 61 σ)) (hR : kr_R σ (kw_sh 61 σ)) (hT0 : 0 ≤ T) (hT1 : T ≤ 2000) (hnext : ∀ (S : kw_S) (T' : Int), kw_I bX S → kw_I (bM T') (kw_sh 61 S) → kr_R S (kw_sh 61 S) → 0 ≤ T' → T' ≤ T + 20 → kw_AW l 30 ((1002, L, xs) :: kw_E0) KJ mL_law kl_P 1359 [(3, .int x3), (2, .ref 61), (1, .ref 0), (0, .ref 1002)] [] S) : kw_AW l 30 ((1002, L, xs) :: kw_E0) KJ mL_law kl_P 1037 [(3, .int x3), (2, .ref 61), (1, .ref 0), (0, .ref 1002)] [] σ := by
  have u1 : (x3 + 1).toInt = x3.toInt + 1 := by rw [kw_addI, show (1 : Int32).toInt = 1 from rfl]; omega
  have u2 : (x3 + 2).toInt = x3.toInt + 2 := by rw [kw_addI, show (2 : Int32).toInt = 2 from rfl]; omega
  have u3 : (x3 + 3).toInt = x3.toInt + 3 := by rw [kw_addI, show (3 : Int32).toInt = 3 from rfl]; omega
  have u4 : (x3 + 4).toInt = x3.toInt + 4 := by rw [kw_addI, show (4 : Int32).toInt = 4 from rfl]; omega
  have u5 : (x3 + 5).toInt = x3.toInt + 5 := by rw [kw_addI, show (5 : Int32).toInt = 5 from rfl]; omega
  refine kw_aload_n (pc := 1037) (i := 665) (k := 2) (n := 1) (kl_a11 5 rfl) rfl rfl ?_
  refine kw_aload_n (pc := 1038) (i := 666) (k := 3) (n := 0) (kl_a11 6 rfl) rfl rfl ?_
  refine kw_iload_n (pc := 1039) (i := 667) (k := 0) (n := 3) (kl_a11 7 rfl) rfl rfl ?_
  refine kw_iconst (pc := 1040) (i := 668) (v := 1) (kl_a11 8 rfl) rfl ?_
  refine kw_iadd (pc := 1041) (i := 669) (kl_a11 9 rfl) (fun z1 e_z1 t_z1 => ?_)
  subst e_z1
  clear t_z1
  refine kw_tld (pc := 1042) (i := 670) (k := 0) (n := L) (kl_a11 10 rfl) rfl (by omega) (by omega) (fun z2 e_z2 => ?_)
  subst e_z2
  refine kw_aload_n (pc := 1043) (i := 671) (k := 3) (n := 0) (kl_a11 11 rfl) rfl rfl ?_
  refine kw_iload_n (pc := 1044) (i := 672) (k := 0) (n := 3) (kl_a11 12 rfl) rfl rfl ?_
  refine kw_iconst (pc := 1045) (i := 673) (v := 2) (kl_a11 13 rfl) rfl ?_
  refine kw_iadd (pc := 1046) (i := 674) (kl_a11 14 rfl) (fun z3 e_z3 t_z3 => ?_)
  subst e_z3
  clear t_z3
  refine kw_tld (pc := 1047) (i := 675) (k := 0) (n := L) (kl_a11 15 rfl) rfl (by omega) (by omega) (fun z4 e_z4 => ?_)
  subst e_z4
  refine kw_callX (pc := 1048) (i := 676) (Y := mX7_kinds) (xs := [xs (x3 + 1).toNatClampNeg, xs (x3 + 2).toNatClampNeg]) (st := []) kl_hE (kl_a11 16 rfl) lvL_134 arX7_kinds (c_X7_kinds_0 l σ hX (xs (x3 + 1).toNatClampNeg) (xs (x3 + 2).toNatClampNeg) ) (by decide) (Nat.le_of_ble_eq_true rfl) rfl (fun v sX pX => ?_)
  obtain ⟨⟨IX, FX⟩, rX, rfl, eX⟩ := pX
  show kw_AW l 30 ((1002, L, xs) :: kw_E0) KJ mL_law kl_P 1051 [(3, .int x3), (2, .ref 61), (1, .ref 0), (0, .ref 1002)] [.int rX] (kw_mixX σ sX)
  refine kw_pop (pc := 1051) (i := 677) (kl_a11 17 rfl) rfl ?_
  refine kw_aload_n (pc := 1052) (i := 678) (k := 1) (n := 2) (kl_a11 18 rfl) rfl rfl ?_
  refine kw_aload_n (pc := 1053) (i := 679) (k := 3) (n := 0) (kl_a11 19 rfl) rfl rfl ?_
  refine kw_iload_n (pc := 1054) (i := 680) (k := 0) (n := 3) (kl_a11 20 rfl) rfl rfl ?_
  refine kw_iconst (pc := 1055) (i := 681) (v := 1) (kl_a11 21 rfl) rfl ?_
  refine kw_iadd (pc := 1056) (i := 682) (kl_a11 22 rfl) (fun z5 e_z5 t_z5 => ?_)
  subst e_z5
  clear t_z5
  refine kw_tld (pc := 1057) (i := 683) (k := 0) (n := L) (kl_a11 23 rfl) rfl (by omega) (by omega) (fun z6 e_z6 => ?_)
  subst e_z6
  refine kw_aload_n (pc := 1058) (i := 684) (k := 3) (n := 0) (kl_a11 24 rfl) rfl rfl ?_
  refine kw_iload_n (pc := 1059) (i := 685) (k := 0) (n := 3) (kl_a11 25 rfl) rfl rfl ?_
  refine kw_iconst (pc := 1060) (i := 686) (v := 2) (kl_a11 26 rfl) rfl ?_
  refine kw_iadd (pc := 1061) (i := 687) (kl_a11 27 rfl) (fun z7 e_z7 t_z7 => ?_)
  subst e_z7
  clear t_z7
  refine kw_tld (pc := 1062) (i := 688) (k := 0) (n := L) (kl_a11 28 rfl) rfl (by omega) (by omega) (fun z8 e_z8 => ?_)
  subst e_z8
  refine kw_callM (pc := 1063) (i := 689) (Y := mX8_kinds) (xs := [xs (x3 + 1).toNatClampNeg, xs (x3 + 2).toNatClampNeg]) (st := []) kl_hE (kl_a11 29 rfl) lvL_137 arX8_kinds (c_X8_kinds_0 l T (by omega) (by omega) (kw_sh 61 (kw_mixX σ sX)) (by rw [kw_sh_mixX]; exact hM) (xs (x3 + 1).toNatClampNeg) (xs (x3 + 2).toNatClampNeg) ) (by decide) (Nat.le_of_ble_eq_true rfl) rfl (fun _ _ q => by obtain ⟨-, r, rfl, -⟩ := q; exact fun _ _ => rfl) (fun v sM pM => ?_)
  obtain ⟨⟨IM, FM⟩, rM, rfl, eM⟩ := pM
  rw [kw_sh_mixX] at FM eM
  have AX : kw_I bX (kw_mixM (kw_mixX σ sX) sM) := kw_IX_mixM (kw_IX_mixX IX)
  have AM : kw_I (bM T) (kw_sh 61 (kw_mixM (kw_mixX σ sX) sM)) := by rw [kw_sh_mixM]; exact IM
  have Q := (show kr_R sX sM ∧ rX = rM from ⟨kr_R.fr hR FX FM (by decide) (by decide), (kr_kinds hX hR.2.1 hR.2.2.2 (xs (x3 + 1).toNatClampNeg) (xs (x3 + 2).toNatClampNeg) eX eM).1⟩)
  have AR : kr_R (kw_mixM (kw_mixX σ sX) sM) (kw_sh 61 (kw_mixM (kw_mixX σ sX) sM)) := by rw [kw_sh_mixM]; exact ⟨(Q.1).1.mix, (Q.1).2.1.mix, kr_D.mix (Q.1).2.1 (Q.1).2.2.1, (Q.1).2.2.2.mix⟩
  generalize (kw_mixM (kw_mixX σ sX) sM) = J at AX AM AR ⊢
  show kw_AW l 30 ((1002, L, xs) :: kw_E0) KJ mL_law kl_P 1066 [(3, .int x3), (2, .ref 61), (1, .ref 0), (0, .ref 1002)] [.int rM] J
  refine kw_pop (pc := 1066) (i := 690) (kl_a11 30 rfl) rfl ?_
  refine kw_goto (pc := 1067) (i := 691) (tgt := 1359) (kl_a11 31 rfl) rfl ?_
  exact hnext J T AX AM AR (by omega) (by omega)
set_option maxRecDepth 100000 in
set_option maxHeartbeats 4000000 in
theorem kl_case30 (l : Launch) (L : Nat) (xs : Nat → Int32) (hL : L ≤ 384) (x3 : Int32) (h0 : 0 ≤ x3.toInt) (h1 : x3.toInt + 6 ≤ L) (σ : kw_S) (T : Int) (hX : kw_I bX σ) (hM : kw_I (bM T) (kw_sh 61 σ)) (hR : kr_R σ (kw_sh 61 σ)) (hT0 : 0 ≤ T) (hT1 : T ≤ 2000) (hnext : ∀ (S : kw_S) (T' : Int), kw_I bX S → kw_I (bM T') (kw_sh 61 S) → kr_R S (kw_sh 61 S) → 0 ≤ T' → T' ≤ T + 20 → kw_AW l 30 ((1002, L, xs) :: kw_E0) KJ mL_law kl_P 1359 [(3, .int x3), (2, .ref 61), (1, .ref 0), (0, .ref 1002)] [] S) : kw_AW l 30 ((1002, L, xs) :: kw_E0) KJ mL_law kl_P 1070 [(3, .int x3), (2, .ref 61), (1, .ref 0), (0, .ref 1002)] [] σ := by
  have u1 : (x3 + 1).toInt = x3.toInt + 1 := by rw [kw_addI, show (1 : Int32).toInt = 1 from rfl]; omega
  have u2 : (x3 + 2).toInt = x3.toInt + 2 := by rw [kw_addI, show (2 : Int32).toInt = 2 from rfl]; omega
  have u3 : (x3 + 3).toInt = x3.toInt + 3 := by rw [kw_addI, show (3 : Int32).toInt = 3 from rfl]; omega
  have u4 : (x3 + 4).toInt = x3.toInt + 4 := by rw [kw_addI, show (4 : Int32).toInt = 4 from rfl]; omega
  have u5 : (x3 + 5).toInt = x3.toInt + 5 := by rw [kw_addI, show (5 : Int32).toInt = 5 from rfl]; omega
  refine kw_aload_n (pc := 1070) (i := 692) (k := 2) (n := 1) (kl_a11 32 rfl) rfl rfl ?_
  refine kw_aload_n (pc := 1071) (i := 693) (k := 3) (n := 0) (kl_a11 33 rfl) rfl rfl ?_
  refine kw_iload_n (pc := 1072) (i := 694) (k := 0) (n := 3) (kl_a11 34 rfl) rfl rfl ?_
  refine kw_iconst (pc := 1073) (i := 695) (v := 1) (kl_a11 35 rfl) rfl ?_
  refine kw_iadd (pc := 1074) (i := 696) (kl_a11 36 rfl) (fun z1 e_z1 t_z1 => ?_)
  subst e_z1
  clear t_z1
  refine kw_tld (pc := 1075) (i := 697) (k := 0) (n := L) (kl_a11 37 rfl) rfl (by omega) (by omega) (fun z2 e_z2 => ?_)
  subst e_z2
  refine kw_aload_n (pc := 1076) (i := 698) (k := 3) (n := 0) (kl_a11 38 rfl) rfl rfl ?_
  refine kw_iload_n (pc := 1077) (i := 699) (k := 0) (n := 3) (kl_a11 39 rfl) rfl rfl ?_
  refine kw_iconst (pc := 1078) (i := 700) (v := 2) (kl_a11 40 rfl) rfl ?_
  refine kw_iadd (pc := 1079) (i := 701) (kl_a11 41 rfl) (fun z3 e_z3 t_z3 => ?_)
  subst e_z3
  clear t_z3
  refine kw_tld (pc := 1080) (i := 702) (k := 0) (n := L) (kl_a11 42 rfl) rfl (by omega) (by omega) (fun z4 e_z4 => ?_)
  subst e_z4
  refine kw_callX (pc := 1081) (i := 703) (Y := mX7_areas) (xs := [xs (x3 + 1).toNatClampNeg, xs (x3 + 2).toNatClampNeg]) (st := []) kl_hE (kl_a11 43 rfl) lvL_138 arX7_areas (c_X7_areas_0 l σ hX (xs (x3 + 1).toNatClampNeg) (xs (x3 + 2).toNatClampNeg) ) (by decide) (Nat.le_of_ble_eq_true rfl) rfl (fun v sX pX => ?_)
  obtain ⟨⟨IX, FX⟩, rX, rfl, eX⟩ := pX
  show kw_AW l 30 ((1002, L, xs) :: kw_E0) KJ mL_law kl_P 1084 [(3, .int x3), (2, .ref 61), (1, .ref 0), (0, .ref 1002)] [.int rX] (kw_mixX σ sX)
  refine kw_pop (pc := 1084) (i := 704) (kl_a11 44 rfl) rfl ?_
  refine kw_aload_n (pc := 1085) (i := 705) (k := 1) (n := 2) (kl_a11 45 rfl) rfl rfl ?_
  refine kw_aload_n (pc := 1086) (i := 706) (k := 3) (n := 0) (kl_a11 46 rfl) rfl rfl ?_
  refine kw_iload_n (pc := 1087) (i := 707) (k := 0) (n := 3) (kl_a11 47 rfl) rfl rfl ?_
  refine kw_iconst (pc := 1088) (i := 708) (v := 1) (kl_a11 48 rfl) rfl ?_
  refine kw_iadd (pc := 1089) (i := 709) (kl_a11 49 rfl) (fun z5 e_z5 t_z5 => ?_)
  subst e_z5
  clear t_z5
  refine kw_tld (pc := 1090) (i := 710) (k := 0) (n := L) (kl_a11 50 rfl) rfl (by omega) (by omega) (fun z6 e_z6 => ?_)
  subst e_z6
  refine kw_aload_n (pc := 1091) (i := 711) (k := 3) (n := 0) (kl_a11 51 rfl) rfl rfl ?_
  refine kw_iload_n (pc := 1092) (i := 712) (k := 0) (n := 3) (kl_a11 52 rfl) rfl rfl ?_
  refine kw_iconst (pc := 1093) (i := 713) (v := 2) (kl_a11 53 rfl) rfl ?_
  refine kw_iadd (pc := 1094) (i := 714) (kl_a11 54 rfl) (fun z7 e_z7 t_z7 => ?_)
  subst e_z7
  clear t_z7
  refine kw_tld (pc := 1095) (i := 715) (k := 0) (n := L) (kl_a11 55 rfl) rfl (by omega) (by omega) (fun z8 e_z8 => ?_)
  subst e_z8
  refine kw_callM (pc := 1096) (i := 716) (Y := mX8_areas) (xs := [xs (x3 + 1).toNatClampNeg, xs (x3 + 2).toNatClampNeg]) (st := []) kl_hE (kl_a11 56 rfl) lvL_141 arX8_areas (c_X8_areas_0 l T (by omega) (by omega) (kw_sh 61 (kw_mixX σ sX)) (by rw [kw_sh_mixX]; exact hM) (xs (x3 + 1).toNatClampNeg) (xs (x3 + 2).toNatClampNeg) ) (by decide) (Nat.le_of_ble_eq_true rfl) rfl (fun _ _ q => by obtain ⟨-, r, rfl, -⟩ := q; exact fun _ _ => rfl) (fun v sM pM => ?_)
  obtain ⟨⟨IM, FM⟩, rM, rfl, eM⟩ := pM
  rw [kw_sh_mixX] at FM eM
  have AX : kw_I bX (kw_mixM (kw_mixX σ sX) sM) := kw_IX_mixM (kw_IX_mixX IX)
  have AM : kw_I (bM T) (kw_sh 61 (kw_mixM (kw_mixX σ sX) sM)) := by rw [kw_sh_mixM]; exact IM
  have Q := (show kr_R sX sM ∧ rX = rM from ⟨kr_R.fr hR FX FM (by decide) (by decide), (kr_areas hX hR.2.1 hR.2.2.2 (xs (x3 + 1).toNatClampNeg) (xs (x3 + 2).toNatClampNeg) eX eM).1⟩)
  have AR : kr_R (kw_mixM (kw_mixX σ sX) sM) (kw_sh 61 (kw_mixM (kw_mixX σ sX) sM)) := by rw [kw_sh_mixM]; exact ⟨(Q.1).1.mix, (Q.1).2.1.mix, kr_D.mix (Q.1).2.1 (Q.1).2.2.1, (Q.1).2.2.2.mix⟩
  generalize (kw_mixM (kw_mixX σ sX) sM) = J at AX AM AR ⊢
  show kw_AW l 30 ((1002, L, xs) :: kw_E0) KJ mL_law kl_P 1099 [(3, .int x3), (2, .ref 61), (1, .ref 0), (0, .ref 1002)] [.int rM] J
  refine kw_pop (pc := 1099) (i := 717) (kl_a11 57 rfl) rfl ?_
  refine kw_goto (pc := 1100) (i := 718) (tgt := 1359) (kl_a11 58 rfl) rfl ?_
  exact hnext J T AX AM AR (by omega) (by omega)
set_option maxRecDepth 100000 in
set_option maxHeartbeats 4000000 in
theorem kl_case31 (l : Launch) (L : Nat) (xs : Nat → Int32) (hL : L ≤ 384) (x3 : Int32) (h0 : 0 ≤ x3.toInt) (h1 : x3.toInt + 6 ≤ L) (σ : kw_S) (T : Int) (hX : kw_I bX σ) (hM : kw_I (bM T) (kw_sh 61 σ)) (hR : kr_R σ (kw_sh 61 σ)) (hT0 : 0 ≤ T) (hT1 : T ≤ 2000) (hnext : ∀ (S : kw_S) (T' : Int), kw_I bX S → kw_I (bM T') (kw_sh 61 S) → kr_R S (kw_sh 61 S) → 0 ≤ T' → T' ≤ T + 20 → kw_AW l 30 ((1002, L, xs) :: kw_E0) KJ mL_law kl_P 1359 [(3, .int x3), (2, .ref 61), (1, .ref 0), (0, .ref 1002)] [] S) : kw_AW l 30 ((1002, L, xs) :: kw_E0) KJ mL_law kl_P 1103 [(3, .int x3), (2, .ref 61), (1, .ref 0), (0, .ref 1002)] [] σ := by
  have u1 : (x3 + 1).toInt = x3.toInt + 1 := by rw [kw_addI, show (1 : Int32).toInt = 1 from rfl]; omega
  have u2 : (x3 + 2).toInt = x3.toInt + 2 := by rw [kw_addI, show (2 : Int32).toInt = 2 from rfl]; omega
  have u3 : (x3 + 3).toInt = x3.toInt + 3 := by rw [kw_addI, show (3 : Int32).toInt = 3 from rfl]; omega
  have u4 : (x3 + 4).toInt = x3.toInt + 4 := by rw [kw_addI, show (4 : Int32).toInt = 4 from rfl]; omega
  have u5 : (x3 + 5).toInt = x3.toInt + 5 := by rw [kw_addI, show (5 : Int32).toInt = 5 from rfl]; omega
  refine kw_aload_n (pc := 1103) (i := 719) (k := 2) (n := 1) (kl_a11 59 rfl) rfl rfl ?_
  refine kw_aload_n (pc := 1104) (i := 720) (k := 3) (n := 0) (kl_a12 0 rfl) rfl rfl ?_
  refine kw_iload_n (pc := 1105) (i := 721) (k := 0) (n := 3) (kl_a12 1 rfl) rfl rfl ?_
  refine kw_iconst (pc := 1106) (i := 722) (v := 1) (kl_a12 2 rfl) rfl ?_
  refine kw_iadd (pc := 1107) (i := 723) (kl_a12 3 rfl) (fun z1 e_z1 t_z1 => ?_)
  subst e_z1
  clear t_z1
  refine kw_tld (pc := 1108) (i := 724) (k := 0) (n := L) (kl_a12 4 rfl) rfl (by omega) (by omega) (fun z2 e_z2 => ?_)
  subst e_z2
  refine kw_callX (pc := 1109) (i := 725) (Y := mX7_rival) (xs := [xs (x3 + 1).toNatClampNeg]) (st := []) kl_hE (kl_a12 5 rfl) lvL_142 arX7_rival (c_X7_rival_0 l σ hX (xs (x3 + 1).toNatClampNeg) ) (by decide) (Nat.le_of_ble_eq_true rfl) rfl (fun v sX pX => ?_)
  obtain ⟨⟨IX, FX⟩, rX, rfl, f3, eX⟩ := pX
  show kw_AW l 30 ((1002, L, xs) :: kw_E0) KJ mL_law kl_P 1112 [(3, .int x3), (2, .ref 61), (1, .ref 0), (0, .ref 1002)] [.int rX] (kw_mixX σ sX)
  refine kw_pop (pc := 1112) (i := 726) (kl_a12 6 rfl) rfl ?_
  refine kw_aload_n (pc := 1113) (i := 727) (k := 1) (n := 2) (kl_a12 7 rfl) rfl rfl ?_
  refine kw_aload_n (pc := 1114) (i := 728) (k := 3) (n := 0) (kl_a12 8 rfl) rfl rfl ?_
  refine kw_iload_n (pc := 1115) (i := 729) (k := 0) (n := 3) (kl_a12 9 rfl) rfl rfl ?_
  refine kw_iconst (pc := 1116) (i := 730) (v := 1) (kl_a12 10 rfl) rfl ?_
  refine kw_iadd (pc := 1117) (i := 731) (kl_a12 11 rfl) (fun z4 e_z4 t_z4 => ?_)
  subst e_z4
  clear t_z4
  refine kw_tld (pc := 1118) (i := 732) (k := 0) (n := L) (kl_a12 12 rfl) rfl (by omega) (by omega) (fun z5 e_z5 => ?_)
  subst e_z5
  refine kw_callM (pc := 1119) (i := 733) (Y := mX8_rival) (xs := [xs (x3 + 1).toNatClampNeg]) (st := []) kl_hE (kl_a12 13 rfl) lvL_145 arX8_rival (c_X8_rival_0 l T (by omega) (by omega) (kw_sh 61 (kw_mixX σ sX)) (by rw [kw_sh_mixX]; exact hM) (xs (x3 + 1).toNatClampNeg) ) (by decide) (Nat.le_of_ble_eq_true rfl) rfl (fun _ _ q => by obtain ⟨-, r, rfl, -⟩ := q; exact fun _ _ => rfl) (fun v sM pM => ?_)
  obtain ⟨⟨IM, FM⟩, rM, rfl, f6, eM⟩ := pM
  rw [kw_sh_mixX] at FM eM
  first | rw [kw_sh_mixX] at f6 | skip
  have AX : kw_I bX (kw_mixM (kw_mixX σ sX) sM) := kw_IX_mixM (kw_IX_mixX IX)
  have AM : kw_I (bM T) (kw_sh 61 (kw_mixM (kw_mixX σ sX) sM)) := by rw [kw_sh_mixM]; exact IM
  have Q := kr_R.fr hR FX FM (by decide) (by decide)
  have AR : kr_R (kw_mixM (kw_mixX σ sX) sM) (kw_sh 61 (kw_mixM (kw_mixX σ sX) sM)) := by rw [kw_sh_mixM]; exact ⟨(Q).1.mix, (Q).2.1.mix, kr_D.mix (Q).2.1 (Q).2.2.1, (Q).2.2.2.mix⟩
  generalize (kw_mixM (kw_mixX σ sX) sM) = J at AX AM AR ⊢
  show kw_AW l 30 ((1002, L, xs) :: kw_E0) KJ mL_law kl_P 1122 [(3, .int x3), (2, .ref 61), (1, .ref 0), (0, .ref 1002)] [.int rM] J
  refine kw_pop (pc := 1122) (i := 734) (kl_a12 14 rfl) rfl ?_
  refine kw_goto (pc := 1123) (i := 735) (tgt := 1359) (kl_a12 15 rfl) rfl ?_
  exact hnext J T AX AM AR (by omega) (by omega)
set_option maxRecDepth 100000 in
set_option maxHeartbeats 4000000 in
theorem kl_case32 (l : Launch) (L : Nat) (xs : Nat → Int32) (hL : L ≤ 384) (x3 : Int32) (h0 : 0 ≤ x3.toInt) (h1 : x3.toInt + 6 ≤ L) (σ : kw_S) (T : Int) (hX : kw_I bX σ) (hM : kw_I (bM T) (kw_sh 61 σ)) (hR : kr_R σ (kw_sh 61 σ)) (hT0 : 0 ≤ T) (hT1 : T ≤ 2000) (hnext : ∀ (S : kw_S) (T' : Int), kw_I bX S → kw_I (bM T') (kw_sh 61 S) → kr_R S (kw_sh 61 S) → 0 ≤ T' → T' ≤ T + 20 → kw_AW l 30 ((1002, L, xs) :: kw_E0) KJ mL_law kl_P 1359 [(3, .int x3), (2, .ref 61), (1, .ref 0), (0, .ref 1002)] [] S) : kw_AW l 30 ((1002, L, xs) :: kw_E0) KJ mL_law kl_P 1126 [(3, .int x3), (2, .ref 61), (1, .ref 0), (0, .ref 1002)] [] σ := by
  have u1 : (x3 + 1).toInt = x3.toInt + 1 := by rw [kw_addI, show (1 : Int32).toInt = 1 from rfl]; omega
  have u2 : (x3 + 2).toInt = x3.toInt + 2 := by rw [kw_addI, show (2 : Int32).toInt = 2 from rfl]; omega
  have u3 : (x3 + 3).toInt = x3.toInt + 3 := by rw [kw_addI, show (3 : Int32).toInt = 3 from rfl]; omega
  have u4 : (x3 + 4).toInt = x3.toInt + 4 := by rw [kw_addI, show (4 : Int32).toInt = 4 from rfl]; omega
  have u5 : (x3 + 5).toInt = x3.toInt + 5 := by rw [kw_addI, show (5 : Int32).toInt = 5 from rfl]; omega
  refine kw_aload_n (pc := 1126) (i := 736) (k := 2) (n := 1) (kl_a12 16 rfl) rfl rfl ?_
  refine kw_aload_n (pc := 1127) (i := 737) (k := 3) (n := 0) (kl_a12 17 rfl) rfl rfl ?_
  refine kw_iload_n (pc := 1128) (i := 738) (k := 0) (n := 3) (kl_a12 18 rfl) rfl rfl ?_
  refine kw_iconst (pc := 1129) (i := 739) (v := 1) (kl_a12 19 rfl) rfl ?_
  refine kw_iadd (pc := 1130) (i := 740) (kl_a12 20 rfl) (fun z1 e_z1 t_z1 => ?_)
  subst e_z1
  clear t_z1
  refine kw_tld (pc := 1131) (i := 741) (k := 0) (n := L) (kl_a12 21 rfl) rfl (by omega) (by omega) (fun z2 e_z2 => ?_)
  subst e_z2
  refine kw_aload_n (pc := 1132) (i := 742) (k := 3) (n := 0) (kl_a12 22 rfl) rfl rfl ?_
  refine kw_iload_n (pc := 1133) (i := 743) (k := 0) (n := 3) (kl_a12 23 rfl) rfl rfl ?_
  refine kw_iconst (pc := 1134) (i := 744) (v := 2) (kl_a12 24 rfl) rfl ?_
  refine kw_iadd (pc := 1135) (i := 745) (kl_a12 25 rfl) (fun z3 e_z3 t_z3 => ?_)
  subst e_z3
  clear t_z3
  refine kw_tld (pc := 1136) (i := 746) (k := 0) (n := L) (kl_a12 26 rfl) rfl (by omega) (by omega) (fun z4 e_z4 => ?_)
  subst e_z4
  refine kw_callX (pc := 1137) (i := 747) (Y := mX7_mid) (xs := [xs (x3 + 1).toNatClampNeg, xs (x3 + 2).toNatClampNeg]) (st := []) kl_hE (kl_a12 27 rfl) lvL_146 arX7_mid (c_X7_mid_0 l σ hX (xs (x3 + 1).toNatClampNeg) (xs (x3 + 2).toNatClampNeg) ) (by decide) (Nat.le_of_ble_eq_true rfl) rfl (fun v sX pX => ?_)
  obtain ⟨⟨IX, FX⟩, rX, rfl, eX⟩ := pX
  show kw_AW l 30 ((1002, L, xs) :: kw_E0) KJ mL_law kl_P 1140 [(3, .int x3), (2, .ref 61), (1, .ref 0), (0, .ref 1002)] [.int rX] (kw_mixX σ sX)
  refine kw_pop (pc := 1140) (i := 748) (kl_a12 28 rfl) rfl ?_
  refine kw_aload_n (pc := 1141) (i := 749) (k := 1) (n := 2) (kl_a12 29 rfl) rfl rfl ?_
  refine kw_aload_n (pc := 1142) (i := 750) (k := 3) (n := 0) (kl_a12 30 rfl) rfl rfl ?_
  refine kw_iload_n (pc := 1143) (i := 751) (k := 0) (n := 3) (kl_a12 31 rfl) rfl rfl ?_
  refine kw_iconst (pc := 1144) (i := 752) (v := 1) (kl_a12 32 rfl) rfl ?_
  refine kw_iadd (pc := 1145) (i := 753) (kl_a12 33 rfl) (fun z5 e_z5 t_z5 => ?_)
  subst e_z5
  clear t_z5
  refine kw_tld (pc := 1146) (i := 754) (k := 0) (n := L) (kl_a12 34 rfl) rfl (by omega) (by omega) (fun z6 e_z6 => ?_)
  subst e_z6
  refine kw_aload_n (pc := 1147) (i := 755) (k := 3) (n := 0) (kl_a12 35 rfl) rfl rfl ?_
  refine kw_iload_n (pc := 1148) (i := 756) (k := 0) (n := 3) (kl_a12 36 rfl) rfl rfl ?_
  refine kw_iconst (pc := 1149) (i := 757) (v := 2) (kl_a12 37 rfl) rfl ?_
  refine kw_iadd (pc := 1150) (i := 758) (kl_a12 38 rfl) (fun z7 e_z7 t_z7 => ?_)
  subst e_z7
  clear t_z7
  refine kw_tld (pc := 1151) (i := 759) (k := 0) (n := L) (kl_a12 39 rfl) rfl (by omega) (by omega) (fun z8 e_z8 => ?_)
  subst e_z8
  refine kw_callM (pc := 1152) (i := 760) (Y := mX8_mid) (xs := [xs (x3 + 1).toNatClampNeg, xs (x3 + 2).toNatClampNeg]) (st := []) kl_hE (kl_a12 40 rfl) lvL_149 arX8_mid (c_X8_mid_0 l T (by omega) (by omega) (kw_sh 61 (kw_mixX σ sX)) (by rw [kw_sh_mixX]; exact hM) (xs (x3 + 1).toNatClampNeg) (xs (x3 + 2).toNatClampNeg) ) (by decide) (Nat.le_of_ble_eq_true rfl) rfl (fun _ _ q => by obtain ⟨-, r, rfl, -⟩ := q; exact fun _ _ => rfl) (fun v sM pM => ?_)
  obtain ⟨⟨IM, FM⟩, rM, rfl, eM⟩ := pM
  rw [kw_sh_mixX] at FM eM
  have AX : kw_I bX (kw_mixM (kw_mixX σ sX) sM) := kw_IX_mixM (kw_IX_mixX IX)
  have AM : kw_I (bM T) (kw_sh 61 (kw_mixM (kw_mixX σ sX) sM)) := by rw [kw_sh_mixM]; exact IM
  have Q := (show kr_R sX sM ∧ rX = rM from ⟨kr_R.fr hR FX FM (by decide) (by decide), (kr_mid hX hR.2.1 hR.2.2.1 hR.2.2.2 (xs (x3 + 1).toNatClampNeg) (xs (x3 + 2).toNatClampNeg) eX eM).1⟩)
  have AR : kr_R (kw_mixM (kw_mixX σ sX) sM) (kw_sh 61 (kw_mixM (kw_mixX σ sX) sM)) := by rw [kw_sh_mixM]; exact ⟨(Q.1).1.mix, (Q.1).2.1.mix, kr_D.mix (Q.1).2.1 (Q.1).2.2.1, (Q.1).2.2.2.mix⟩
  generalize (kw_mixM (kw_mixX σ sX) sM) = J at AX AM AR ⊢
  show kw_AW l 30 ((1002, L, xs) :: kw_E0) KJ mL_law kl_P 1155 [(3, .int x3), (2, .ref 61), (1, .ref 0), (0, .ref 1002)] [.int rM] J
  refine kw_pop (pc := 1155) (i := 761) (kl_a12 41 rfl) rfl ?_
  refine kw_goto (pc := 1156) (i := 762) (tgt := 1359) (kl_a12 42 rfl) rfl ?_
  exact hnext J T AX AM AR (by omega) (by omega)
set_option maxRecDepth 100000 in
set_option maxHeartbeats 4000000 in
theorem kl_case33 (l : Launch) (L : Nat) (xs : Nat → Int32) (hL : L ≤ 384) (x3 : Int32) (h0 : 0 ≤ x3.toInt) (h1 : x3.toInt + 6 ≤ L) (σ : kw_S) (T : Int) (hX : kw_I bX σ) (hM : kw_I (bM T) (kw_sh 61 σ)) (hR : kr_R σ (kw_sh 61 σ)) (hT0 : 0 ≤ T) (hT1 : T ≤ 2000) (hnext : ∀ (S : kw_S) (T' : Int), kw_I bX S → kw_I (bM T') (kw_sh 61 S) → kr_R S (kw_sh 61 S) → 0 ≤ T' → T' ≤ T + 20 → kw_AW l 30 ((1002, L, xs) :: kw_E0) KJ mL_law kl_P 1359 [(3, .int x3), (2, .ref 61), (1, .ref 0), (0, .ref 1002)] [] S) : kw_AW l 30 ((1002, L, xs) :: kw_E0) KJ mL_law kl_P 1159 [(3, .int x3), (2, .ref 61), (1, .ref 0), (0, .ref 1002)] [] σ := by
  have u1 : (x3 + 1).toInt = x3.toInt + 1 := by rw [kw_addI, show (1 : Int32).toInt = 1 from rfl]; omega
  have u2 : (x3 + 2).toInt = x3.toInt + 2 := by rw [kw_addI, show (2 : Int32).toInt = 2 from rfl]; omega
  have u3 : (x3 + 3).toInt = x3.toInt + 3 := by rw [kw_addI, show (3 : Int32).toInt = 3 from rfl]; omega
  have u4 : (x3 + 4).toInt = x3.toInt + 4 := by rw [kw_addI, show (4 : Int32).toInt = 4 from rfl]; omega
  have u5 : (x3 + 5).toInt = x3.toInt + 5 := by rw [kw_addI, show (5 : Int32).toInt = 5 from rfl]; omega
  refine kw_aload_n (pc := 1159) (i := 763) (k := 2) (n := 1) (kl_a12 43 rfl) rfl rfl ?_
  refine kw_aload_n (pc := 1160) (i := 764) (k := 3) (n := 0) (kl_a12 44 rfl) rfl rfl ?_
  refine kw_iload_n (pc := 1161) (i := 765) (k := 0) (n := 3) (kl_a12 45 rfl) rfl rfl ?_
  refine kw_iconst (pc := 1162) (i := 766) (v := 1) (kl_a12 46 rfl) rfl ?_
  refine kw_iadd (pc := 1163) (i := 767) (kl_a12 47 rfl) (fun z1 e_z1 t_z1 => ?_)
  subst e_z1
  clear t_z1
  refine kw_tld (pc := 1164) (i := 768) (k := 0) (n := L) (kl_a12 48 rfl) rfl (by omega) (by omega) (fun z2 e_z2 => ?_)
  subst e_z2
  refine kw_aload_n (pc := 1165) (i := 769) (k := 3) (n := 0) (kl_a12 49 rfl) rfl rfl ?_
  refine kw_iload_n (pc := 1166) (i := 770) (k := 0) (n := 3) (kl_a12 50 rfl) rfl rfl ?_
  refine kw_iconst (pc := 1167) (i := 771) (v := 2) (kl_a12 51 rfl) rfl ?_
  refine kw_iadd (pc := 1168) (i := 772) (kl_a12 52 rfl) (fun z3 e_z3 t_z3 => ?_)
  subst e_z3
  clear t_z3
  refine kw_tld (pc := 1169) (i := 773) (k := 0) (n := L) (kl_a12 53 rfl) rfl (by omega) (by omega) (fun z4 e_z4 => ?_)
  subst e_z4
  refine kw_aload_n (pc := 1170) (i := 774) (k := 3) (n := 0) (kl_a12 54 rfl) rfl rfl ?_
  refine kw_iload_n (pc := 1171) (i := 775) (k := 0) (n := 3) (kl_a12 55 rfl) rfl rfl ?_
  refine kw_iconst (pc := 1172) (i := 776) (v := 3) (kl_a12 56 rfl) rfl ?_
  refine kw_iadd (pc := 1173) (i := 777) (kl_a12 57 rfl) (fun z5 e_z5 t_z5 => ?_)
  subst e_z5
  clear t_z5
  refine kw_tld (pc := 1174) (i := 778) (k := 0) (n := L) (kl_a12 58 rfl) rfl (by omega) (by omega) (fun z6 e_z6 => ?_)
  subst e_z6
  refine kw_callX (pc := 1175) (i := 779) (Y := mX7_odds) (xs := [xs (x3 + 1).toNatClampNeg, xs (x3 + 2).toNatClampNeg, xs (x3 + 3).toNatClampNeg]) (st := []) kl_hE (kl_a12 59 rfl) lvL_150 arX7_odds (c_X7_odds_0 l σ hX (xs (x3 + 1).toNatClampNeg) (xs (x3 + 2).toNatClampNeg) (xs (x3 + 3).toNatClampNeg) ) (by decide) (Nat.le_of_ble_eq_true rfl) rfl (fun v sX pX => ?_)
  obtain ⟨⟨IX, FX⟩, rX, rfl, eX⟩ := pX
  show kw_AW l 30 ((1002, L, xs) :: kw_E0) KJ mL_law kl_P 1178 [(3, .int x3), (2, .ref 61), (1, .ref 0), (0, .ref 1002)] [.int rX] (kw_mixX σ sX)
  refine kw_pop (pc := 1178) (i := 780) (kl_a13 0 rfl) rfl ?_
  refine kw_aload_n (pc := 1179) (i := 781) (k := 1) (n := 2) (kl_a13 1 rfl) rfl rfl ?_
  refine kw_aload_n (pc := 1180) (i := 782) (k := 3) (n := 0) (kl_a13 2 rfl) rfl rfl ?_
  refine kw_iload_n (pc := 1181) (i := 783) (k := 0) (n := 3) (kl_a13 3 rfl) rfl rfl ?_
  refine kw_iconst (pc := 1182) (i := 784) (v := 1) (kl_a13 4 rfl) rfl ?_
  refine kw_iadd (pc := 1183) (i := 785) (kl_a13 5 rfl) (fun z7 e_z7 t_z7 => ?_)
  subst e_z7
  clear t_z7
  refine kw_tld (pc := 1184) (i := 786) (k := 0) (n := L) (kl_a13 6 rfl) rfl (by omega) (by omega) (fun z8 e_z8 => ?_)
  subst e_z8
  refine kw_aload_n (pc := 1185) (i := 787) (k := 3) (n := 0) (kl_a13 7 rfl) rfl rfl ?_
  refine kw_iload_n (pc := 1186) (i := 788) (k := 0) (n := 3) (kl_a13 8 rfl) rfl rfl ?_
  refine kw_iconst (pc := 1187) (i := 789) (v := 2) (kl_a13 9 rfl) rfl ?_
  refine kw_iadd (pc := 1188) (i := 790) (kl_a13 10 rfl) (fun z9 e_z9 t_z9 => ?_)
  subst e_z9
  clear t_z9
  refine kw_tld (pc := 1189) (i := 791) (k := 0) (n := L) (kl_a13 11 rfl) rfl (by omega) (by omega) (fun z10 e_z10 => ?_)
  subst e_z10
  refine kw_aload_n (pc := 1190) (i := 792) (k := 3) (n := 0) (kl_a13 12 rfl) rfl rfl ?_
  refine kw_iload_n (pc := 1191) (i := 793) (k := 0) (n := 3) (kl_a13 13 rfl) rfl rfl ?_
  refine kw_iconst (pc := 1192) (i := 794) (v := 3) (kl_a13 14 rfl) rfl ?_
  refine kw_iadd (pc := 1193) (i := 795) (kl_a13 15 rfl) (fun z11 e_z11 t_z11 => ?_)
  subst e_z11
  clear t_z11
  refine kw_tld (pc := 1194) (i := 796) (k := 0) (n := L) (kl_a13 16 rfl) rfl (by omega) (by omega) (fun z12 e_z12 => ?_)
  subst e_z12
  refine kw_callM (pc := 1195) (i := 797) (Y := mX8_odds) (xs := [xs (x3 + 1).toNatClampNeg, xs (x3 + 2).toNatClampNeg, xs (x3 + 3).toNatClampNeg]) (st := []) kl_hE (kl_a13 17 rfl) lvL_153 arX8_odds (c_X8_odds_0 l T (by omega) (by omega) (kw_sh 61 (kw_mixX σ sX)) (by rw [kw_sh_mixX]; exact hM) (xs (x3 + 1).toNatClampNeg) (xs (x3 + 2).toNatClampNeg) (xs (x3 + 3).toNatClampNeg) ) (by decide) (Nat.le_of_ble_eq_true rfl) rfl (fun _ _ q => by obtain ⟨-, r, rfl, -⟩ := q; exact fun _ _ => rfl) (fun v sM pM => ?_)
  obtain ⟨⟨IM, FM⟩, rM, rfl, eM⟩ := pM
  rw [kw_sh_mixX] at FM eM
  have AX : kw_I bX (kw_mixM (kw_mixX σ sX) sM) := kw_IX_mixM (kw_IX_mixX IX)
  have AM : kw_I (bM T) (kw_sh 61 (kw_mixM (kw_mixX σ sX) sM)) := by rw [kw_sh_mixM]; exact IM
  have Q := (show kr_R sX sM ∧ rX = rM from ⟨kr_R.fr hR FX FM (by decide) (by decide), (kr_odds hX hR.2.1 hR.2.2.1 hR.2.2.2 (xs (x3 + 1).toNatClampNeg) (xs (x3 + 2).toNatClampNeg) (xs (x3 + 3).toNatClampNeg) eX eM).1⟩)
  have AR : kr_R (kw_mixM (kw_mixX σ sX) sM) (kw_sh 61 (kw_mixM (kw_mixX σ sX) sM)) := by rw [kw_sh_mixM]; exact ⟨(Q.1).1.mix, (Q.1).2.1.mix, kr_D.mix (Q.1).2.1 (Q.1).2.2.1, (Q.1).2.2.2.mix⟩
  generalize (kw_mixM (kw_mixX σ sX) sM) = J at AX AM AR ⊢
  show kw_AW l 30 ((1002, L, xs) :: kw_E0) KJ mL_law kl_P 1198 [(3, .int x3), (2, .ref 61), (1, .ref 0), (0, .ref 1002)] [.int rM] J
  refine kw_pop (pc := 1198) (i := 798) (kl_a13 18 rfl) rfl ?_
  refine kw_goto (pc := 1199) (i := 799) (tgt := 1359) (kl_a13 19 rfl) rfl ?_
  exact hnext J T AX AM AR (by omega) (by omega)
set_option maxRecDepth 100000 in
set_option maxHeartbeats 4000000 in
theorem kl_case34 (l : Launch) (L : Nat) (xs : Nat → Int32) (hL : L ≤ 384) (x3 : Int32) (h0 : 0 ≤ x3.toInt) (h1 : x3.toInt + 6 ≤ L) (σ : kw_S) (T : Int) (hX : kw_I bX σ) (hM : kw_I (bM T) (kw_sh 61 σ)) (hR : kr_R σ (kw_sh 61 σ)) (hT0 : 0 ≤ T) (hT1 : T ≤ 2000) (hnext : ∀ (S : kw_S) (T' : Int), kw_I bX S → kw_I (bM T') (kw_sh 61 S) → kr_R S (kw_sh 61 S) → 0 ≤ T' → T' ≤ T + 20 → kw_AW l 30 ((1002, L, xs) :: kw_E0) KJ mL_law kl_P 1359 [(3, .int x3), (2, .ref 61), (1, .ref 0), (0, .ref 1002)] [] S) : kw_AW l 30 ((1002, L, xs) :: kw_E0) KJ mL_law kl_P 1202 [(3, .int x3), (2, .ref 61), (1, .ref 0), (0, .ref 1002)] [] σ := by
  have u1 : (x3 + 1).toInt = x3.toInt + 1 := by rw [kw_addI, show (1 : Int32).toInt = 1 from rfl]; omega
  have u2 : (x3 + 2).toInt = x3.toInt + 2 := by rw [kw_addI, show (2 : Int32).toInt = 2 from rfl]; omega
  have u3 : (x3 + 3).toInt = x3.toInt + 3 := by rw [kw_addI, show (3 : Int32).toInt = 3 from rfl]; omega
  have u4 : (x3 + 4).toInt = x3.toInt + 4 := by rw [kw_addI, show (4 : Int32).toInt = 4 from rfl]; omega
  have u5 : (x3 + 5).toInt = x3.toInt + 5 := by rw [kw_addI, show (5 : Int32).toInt = 5 from rfl]; omega
  refine kw_aload_n (pc := 1202) (i := 800) (k := 2) (n := 1) (kl_a13 20 rfl) rfl rfl ?_
  refine kw_aload_n (pc := 1203) (i := 801) (k := 3) (n := 0) (kl_a13 21 rfl) rfl rfl ?_
  refine kw_iload_n (pc := 1204) (i := 802) (k := 0) (n := 3) (kl_a13 22 rfl) rfl rfl ?_
  refine kw_iconst (pc := 1205) (i := 803) (v := 1) (kl_a13 23 rfl) rfl ?_
  refine kw_iadd (pc := 1206) (i := 804) (kl_a13 24 rfl) (fun z1 e_z1 t_z1 => ?_)
  subst e_z1
  clear t_z1
  refine kw_tld (pc := 1207) (i := 805) (k := 0) (n := L) (kl_a13 25 rfl) rfl (by omega) (by omega) (fun z2 e_z2 => ?_)
  subst e_z2
  refine kw_aload_n (pc := 1208) (i := 806) (k := 3) (n := 0) (kl_a13 26 rfl) rfl rfl ?_
  refine kw_iload_n (pc := 1209) (i := 807) (k := 0) (n := 3) (kl_a13 27 rfl) rfl rfl ?_
  refine kw_iconst (pc := 1210) (i := 808) (v := 2) (kl_a13 28 rfl) rfl ?_
  refine kw_iadd (pc := 1211) (i := 809) (kl_a13 29 rfl) (fun z3 e_z3 t_z3 => ?_)
  subst e_z3
  clear t_z3
  refine kw_tld (pc := 1212) (i := 810) (k := 0) (n := L) (kl_a13 30 rfl) rfl (by omega) (by omega) (fun z4 e_z4 => ?_)
  subst e_z4
  refine kw_callX (pc := 1213) (i := 811) (Y := mX7_lots) (xs := [xs (x3 + 1).toNatClampNeg, xs (x3 + 2).toNatClampNeg]) (st := []) kl_hE (kl_a13 31 rfl) lvL_154 arX7_lots (c_X7_lots_0 l σ hX (xs (x3 + 1).toNatClampNeg) (xs (x3 + 2).toNatClampNeg) ) (by decide) (Nat.le_of_ble_eq_true rfl) rfl (fun v sX pX => ?_)
  obtain ⟨⟨IX, FX⟩, rX, rfl, eX⟩ := pX
  show kw_AW l 30 ((1002, L, xs) :: kw_E0) KJ mL_law kl_P 1216 [(3, .int x3), (2, .ref 61), (1, .ref 0), (0, .ref 1002)] [.int rX] (kw_mixX σ sX)
  refine kw_pop (pc := 1216) (i := 812) (kl_a13 32 rfl) rfl ?_
  refine kw_aload_n (pc := 1217) (i := 813) (k := 1) (n := 2) (kl_a13 33 rfl) rfl rfl ?_
  refine kw_aload_n (pc := 1218) (i := 814) (k := 3) (n := 0) (kl_a13 34 rfl) rfl rfl ?_
  refine kw_iload_n (pc := 1219) (i := 815) (k := 0) (n := 3) (kl_a13 35 rfl) rfl rfl ?_
  refine kw_iconst (pc := 1220) (i := 816) (v := 1) (kl_a13 36 rfl) rfl ?_
  refine kw_iadd (pc := 1221) (i := 817) (kl_a13 37 rfl) (fun z5 e_z5 t_z5 => ?_)
  subst e_z5
  clear t_z5
  refine kw_tld (pc := 1222) (i := 818) (k := 0) (n := L) (kl_a13 38 rfl) rfl (by omega) (by omega) (fun z6 e_z6 => ?_)
  subst e_z6
  refine kw_aload_n (pc := 1223) (i := 819) (k := 3) (n := 0) (kl_a13 39 rfl) rfl rfl ?_
  refine kw_iload_n (pc := 1224) (i := 820) (k := 0) (n := 3) (kl_a13 40 rfl) rfl rfl ?_
  refine kw_iconst (pc := 1225) (i := 821) (v := 2) (kl_a13 41 rfl) rfl ?_
  refine kw_iadd (pc := 1226) (i := 822) (kl_a13 42 rfl) (fun z7 e_z7 t_z7 => ?_)
  subst e_z7
  clear t_z7
  refine kw_tld (pc := 1227) (i := 823) (k := 0) (n := L) (kl_a13 43 rfl) rfl (by omega) (by omega) (fun z8 e_z8 => ?_)
  subst e_z8
  refine kw_callM (pc := 1228) (i := 824) (Y := mX8_lots) (xs := [xs (x3 + 1).toNatClampNeg, xs (x3 + 2).toNatClampNeg]) (st := []) kl_hE (kl_a13 44 rfl) lvL_157 arX8_lots (c_X8_lots_0 l T (by omega) (by omega) (kw_sh 61 (kw_mixX σ sX)) (by rw [kw_sh_mixX]; exact hM) (xs (x3 + 1).toNatClampNeg) (xs (x3 + 2).toNatClampNeg) (by omega)) (by decide) (Nat.le_of_ble_eq_true rfl) rfl (fun _ _ q => by obtain ⟨-, r, rfl, -⟩ := q; exact fun _ _ => rfl) (fun v sM pM => ?_)
  obtain ⟨⟨IM, FM⟩, rM, rfl, eM⟩ := pM
  rw [kw_sh_mixX] at FM eM
  have AX : kw_I bX (kw_mixM (kw_mixX σ sX) sM) := kw_IX_mixM (kw_IX_mixX IX)
  have AM : kw_I (bM (T + 20)) (kw_sh 61 (kw_mixM (kw_mixX σ sX) sM)) := by rw [kw_sh_mixM]; exact IM
  have Q := (show kr_R sX sM ∧ rX = rM from ⟨⟨hR.1.fr FX FM (by decide) (by decide), hR.2.1.fr FX FM (by decide) (by decide), (kr_lots hR.2.1 hR.2.2.1 (xs (x3 + 1).toNatClampNeg) (xs (x3 + 2).toNatClampNeg) eX eM).1, hR.2.2.2.fr FX FM (by decide) (by decide)⟩, (kr_lots hR.2.1 hR.2.2.1 (xs (x3 + 1).toNatClampNeg) (xs (x3 + 2).toNatClampNeg) eX eM).2⟩)
  have AR : kr_R (kw_mixM (kw_mixX σ sX) sM) (kw_sh 61 (kw_mixM (kw_mixX σ sX) sM)) := by rw [kw_sh_mixM]; exact ⟨(Q.1).1.mix, (Q.1).2.1.mix, kr_D.mix (Q.1).2.1 (Q.1).2.2.1, (Q.1).2.2.2.mix⟩
  generalize (kw_mixM (kw_mixX σ sX) sM) = J at AX AM AR ⊢
  show kw_AW l 30 ((1002, L, xs) :: kw_E0) KJ mL_law kl_P 1231 [(3, .int x3), (2, .ref 61), (1, .ref 0), (0, .ref 1002)] [.int rM] J
  refine kw_pop (pc := 1231) (i := 825) (kl_a13 45 rfl) rfl ?_
  refine kw_goto (pc := 1232) (i := 826) (tgt := 1359) (kl_a13 46 rfl) rfl ?_
  exact hnext J (T + 20) AX AM AR (by omega) (by omega)
set_option maxRecDepth 100000 in
set_option maxHeartbeats 4000000 in
theorem kl_case35 (l : Launch) (L : Nat) (xs : Nat → Int32) (hL : L ≤ 384) (x3 : Int32) (h0 : 0 ≤ x3.toInt) (h1 : x3.toInt + 6 ≤ L) (σ : kw_S) (T : Int) (hX : kw_I bX σ) (hM : kw_I (bM T) (kw_sh 61 σ)) (hR : kr_R σ (kw_sh 61 σ)) (hT0 : 0 ≤ T) (hT1 : T ≤ 2000) (hnext : ∀ (S : kw_S) (T' : Int), kw_I bX S → kw_I (bM T') (kw_sh 61 S) → kr_R S (kw_sh 61 S) → 0 ≤ T' → T' ≤ T + 20 → kw_AW l 30 ((1002, L, xs) :: kw_E0) KJ mL_law kl_P 1359 [(3, .int x3), (2, .ref 61), (1, .ref 0), (0, .ref 1002)] [] S) : kw_AW l 30 ((1002, L, xs) :: kw_E0) KJ mL_law kl_P 1235 [(3, .int x3), (2, .ref 61), (1, .ref 0), (0, .ref 1002)] [] σ := by
  have u1 : (x3 + 1).toInt = x3.toInt + 1 := by rw [kw_addI, show (1 : Int32).toInt = 1 from rfl]; omega
  have u2 : (x3 + 2).toInt = x3.toInt + 2 := by rw [kw_addI, show (2 : Int32).toInt = 2 from rfl]; omega
  have u3 : (x3 + 3).toInt = x3.toInt + 3 := by rw [kw_addI, show (3 : Int32).toInt = 3 from rfl]; omega
  have u4 : (x3 + 4).toInt = x3.toInt + 4 := by rw [kw_addI, show (4 : Int32).toInt = 4 from rfl]; omega
  have u5 : (x3 + 5).toInt = x3.toInt + 5 := by rw [kw_addI, show (5 : Int32).toInt = 5 from rfl]; omega
  refine kw_aload_n (pc := 1235) (i := 827) (k := 2) (n := 1) (kl_a13 47 rfl) rfl rfl ?_
  refine kw_callX (pc := 1236) (i := 828) (Y := mX7_asked) (xs := []) (st := []) kl_hE (kl_a13 48 rfl) lvL_158 arX7_asked (c_X7_asked_0 l σ hX  ) (by decide) (Nat.le_of_ble_eq_true rfl) rfl (fun v sX pX => ?_)
  obtain ⟨gX, rX, rfl, eX⟩ := pX
  have IX : kw_I bX sX := by rw [gX]; exact hX
  have FX : kw_F [] σ sX := by rw [gX]; exact kw_F.rf
  show kw_AW l 30 ((1002, L, xs) :: kw_E0) KJ mL_law kl_P 1239 [(3, .int x3), (2, .ref 61), (1, .ref 0), (0, .ref 1002)] [.int rX] (kw_mixX σ sX)
  refine kw_pop (pc := 1239) (i := 829) (kl_a13 49 rfl) rfl ?_
  refine kw_aload_n (pc := 1240) (i := 830) (k := 1) (n := 2) (kl_a13 50 rfl) rfl rfl ?_
  refine kw_callM (pc := 1241) (i := 831) (Y := mX8_asked) (xs := []) (st := []) kl_hE (kl_a13 51 rfl) lvL_161 arX8_asked (c_X8_asked_0 l T (by omega) (by omega) (kw_sh 61 (kw_mixX σ sX)) (by rw [kw_sh_mixX]; exact hM)  ) (by decide) (Nat.le_of_ble_eq_true rfl) rfl (fun _ _ q => by obtain ⟨-, r, rfl, -⟩ := q; exact fun _ _ => rfl) (fun v sM pM => ?_)
  obtain ⟨gM, rM, rfl, eM⟩ := pM
  rw [kw_sh_mixX] at gM eM
  have IM : kw_I (bM T) sM := by rw [gM]; exact hM
  have FM : kw_FM [] (kw_sh 61 σ) sM := by rw [gM]; exact kw_FM.rf
  have AX : kw_I bX (kw_mixM (kw_mixX σ sX) sM) := kw_IX_mixM (kw_IX_mixX IX)
  have AM : kw_I (bM T) (kw_sh 61 (kw_mixM (kw_mixX σ sX) sM)) := by rw [kw_sh_mixM]; exact IM
  have Q := kr_R.fr hR FX FM (by decide) (by decide)
  have AR : kr_R (kw_mixM (kw_mixX σ sX) sM) (kw_sh 61 (kw_mixM (kw_mixX σ sX) sM)) := by rw [kw_sh_mixM]; exact ⟨(Q).1.mix, (Q).2.1.mix, kr_D.mix (Q).2.1 (Q).2.2.1, (Q).2.2.2.mix⟩
  generalize (kw_mixM (kw_mixX σ sX) sM) = J at AX AM AR ⊢
  show kw_AW l 30 ((1002, L, xs) :: kw_E0) KJ mL_law kl_P 1244 [(3, .int x3), (2, .ref 61), (1, .ref 0), (0, .ref 1002)] [.int rM] J
  refine kw_pop (pc := 1244) (i := 832) (kl_a13 52 rfl) rfl ?_
  refine kw_goto (pc := 1245) (i := 833) (tgt := 1359) (kl_a13 53 rfl) rfl ?_
  exact hnext J T AX AM AR (by omega) (by omega)
set_option maxRecDepth 100000 in
set_option maxHeartbeats 4000000 in
theorem kl_case36 (l : Launch) (L : Nat) (xs : Nat → Int32) (hL : L ≤ 384) (x3 : Int32) (h0 : 0 ≤ x3.toInt) (h1 : x3.toInt + 6 ≤ L) (σ : kw_S) (T : Int) (hX : kw_I bX σ) (hM : kw_I (bM T) (kw_sh 61 σ)) (hR : kr_R σ (kw_sh 61 σ)) (hT0 : 0 ≤ T) (hT1 : T ≤ 2000) (hnext : ∀ (S : kw_S) (T' : Int), kw_I bX S → kw_I (bM T') (kw_sh 61 S) → kr_R S (kw_sh 61 S) → 0 ≤ T' → T' ≤ T + 20 → kw_AW l 30 ((1002, L, xs) :: kw_E0) KJ mL_law kl_P 1359 [(3, .int x3), (2, .ref 61), (1, .ref 0), (0, .ref 1002)] [] S) : kw_AW l 30 ((1002, L, xs) :: kw_E0) KJ mL_law kl_P 1248 [(3, .int x3), (2, .ref 61), (1, .ref 0), (0, .ref 1002)] [] σ := by
  have u1 : (x3 + 1).toInt = x3.toInt + 1 := by rw [kw_addI, show (1 : Int32).toInt = 1 from rfl]; omega
  have u2 : (x3 + 2).toInt = x3.toInt + 2 := by rw [kw_addI, show (2 : Int32).toInt = 2 from rfl]; omega
  have u3 : (x3 + 3).toInt = x3.toInt + 3 := by rw [kw_addI, show (3 : Int32).toInt = 3 from rfl]; omega
  have u4 : (x3 + 4).toInt = x3.toInt + 4 := by rw [kw_addI, show (4 : Int32).toInt = 4 from rfl]; omega
  have u5 : (x3 + 5).toInt = x3.toInt + 5 := by rw [kw_addI, show (5 : Int32).toInt = 5 from rfl]; omega
  refine kw_aload_n (pc := 1248) (i := 834) (k := 2) (n := 1) (kl_a13 54 rfl) rfl rfl ?_
  refine kw_callX (pc := 1249) (i := 835) (Y := mX7_upper) (xs := []) (st := []) kl_hE (kl_a13 55 rfl) lvL_162 arX7_upper (c_X7_upper_0 l σ hX  ) (by decide) (Nat.le_of_ble_eq_true rfl) rfl (fun v sX pX => ?_)
  obtain ⟨gX, rX, rfl, eX⟩ := pX
  have IX : kw_I bX sX := by rw [gX]; exact hX
  have FX : kw_F [] σ sX := by rw [gX]; exact kw_F.rf
  show kw_AW l 30 ((1002, L, xs) :: kw_E0) KJ mL_law kl_P 1252 [(3, .int x3), (2, .ref 61), (1, .ref 0), (0, .ref 1002)] [.long rX] (kw_mixX σ sX)
  refine kw_pop2 (pc := 1252) (i := 836) (kl_a13 56 rfl) rfl ?_
  refine kw_aload_n (pc := 1253) (i := 837) (k := 1) (n := 2) (kl_a13 57 rfl) rfl rfl ?_
  refine kw_callM (pc := 1254) (i := 838) (Y := mX8_upper) (xs := []) (st := []) kl_hE (kl_a13 58 rfl) lvL_166 arX8_upper (c_X8_upper_0 l T (by omega) (by omega) (kw_sh 61 (kw_mixX σ sX)) (by rw [kw_sh_mixX]; exact hM)  ) (by decide) (Nat.le_of_ble_eq_true rfl) rfl (fun _ _ q => by obtain ⟨-, r, rfl, -⟩ := q; exact fun _ _ => rfl) (fun v sM pM => ?_)
  obtain ⟨gM, rM, rfl, eM⟩ := pM
  rw [kw_sh_mixX] at gM eM
  have IM : kw_I (bM T) sM := by rw [gM]; exact hM
  have FM : kw_FM [] (kw_sh 61 σ) sM := by rw [gM]; exact kw_FM.rf
  have AX : kw_I bX (kw_mixM (kw_mixX σ sX) sM) := kw_IX_mixM (kw_IX_mixX IX)
  have AM : kw_I (bM T) (kw_sh 61 (kw_mixM (kw_mixX σ sX) sM)) := by rw [kw_sh_mixM]; exact IM
  have Q := kr_R.fr hR FX FM (by decide) (by decide)
  have AR : kr_R (kw_mixM (kw_mixX σ sX) sM) (kw_sh 61 (kw_mixM (kw_mixX σ sX) sM)) := by rw [kw_sh_mixM]; exact ⟨(Q).1.mix, (Q).2.1.mix, kr_D.mix (Q).2.1 (Q).2.2.1, (Q).2.2.2.mix⟩
  generalize (kw_mixM (kw_mixX σ sX) sM) = J at AX AM AR ⊢
  show kw_AW l 30 ((1002, L, xs) :: kw_E0) KJ mL_law kl_P 1257 [(3, .int x3), (2, .ref 61), (1, .ref 0), (0, .ref 1002)] [.long rM] J
  refine kw_pop2 (pc := 1257) (i := 839) (kl_a13 59 rfl) rfl ?_
  refine kw_goto (pc := 1258) (i := 840) (tgt := 1359) (kl_a14 0 rfl) rfl ?_
  exact hnext J T AX AM AR (by omega) (by omega)
set_option maxRecDepth 100000 in
set_option maxHeartbeats 4000000 in
theorem kl_case37 (l : Launch) (L : Nat) (xs : Nat → Int32) (hL : L ≤ 384) (x3 : Int32) (h0 : 0 ≤ x3.toInt) (h1 : x3.toInt + 6 ≤ L) (σ : kw_S) (T : Int) (hX : kw_I bX σ) (hM : kw_I (bM T) (kw_sh 61 σ)) (hR : kr_R σ (kw_sh 61 σ)) (hT0 : 0 ≤ T) (hT1 : T ≤ 2000) (hnext : ∀ (S : kw_S) (T' : Int), kw_I bX S → kw_I (bM T') (kw_sh 61 S) → kr_R S (kw_sh 61 S) → 0 ≤ T' → T' ≤ T + 20 → kw_AW l 30 ((1002, L, xs) :: kw_E0) KJ mL_law kl_P 1359 [(3, .int x3), (2, .ref 61), (1, .ref 0), (0, .ref 1002)] [] S) : kw_AW l 30 ((1002, L, xs) :: kw_E0) KJ mL_law kl_P 1261 [(3, .int x3), (2, .ref 61), (1, .ref 0), (0, .ref 1002)] [] σ := by
  have u1 : (x3 + 1).toInt = x3.toInt + 1 := by rw [kw_addI, show (1 : Int32).toInt = 1 from rfl]; omega
  have u2 : (x3 + 2).toInt = x3.toInt + 2 := by rw [kw_addI, show (2 : Int32).toInt = 2 from rfl]; omega
  have u3 : (x3 + 3).toInt = x3.toInt + 3 := by rw [kw_addI, show (3 : Int32).toInt = 3 from rfl]; omega
  have u4 : (x3 + 4).toInt = x3.toInt + 4 := by rw [kw_addI, show (4 : Int32).toInt = 4 from rfl]; omega
  have u5 : (x3 + 5).toInt = x3.toInt + 5 := by rw [kw_addI, show (5 : Int32).toInt = 5 from rfl]; omega
  refine kw_aload_n (pc := 1261) (i := 841) (k := 2) (n := 1) (kl_a14 1 rfl) rfl rfl ?_
  refine kw_callX (pc := 1262) (i := 842) (Y := mX7_lower) (xs := []) (st := []) kl_hE (kl_a14 2 rfl) lvL_167 arX7_lower (c_X7_lower_0 l σ hX  ) (by decide) (Nat.le_of_ble_eq_true rfl) rfl (fun v sX pX => ?_)
  obtain ⟨gX, rX, rfl, eX⟩ := pX
  have IX : kw_I bX sX := by rw [gX]; exact hX
  have FX : kw_F [] σ sX := by rw [gX]; exact kw_F.rf
  show kw_AW l 30 ((1002, L, xs) :: kw_E0) KJ mL_law kl_P 1265 [(3, .int x3), (2, .ref 61), (1, .ref 0), (0, .ref 1002)] [.long rX] (kw_mixX σ sX)
  refine kw_pop2 (pc := 1265) (i := 843) (kl_a14 3 rfl) rfl ?_
  refine kw_aload_n (pc := 1266) (i := 844) (k := 1) (n := 2) (kl_a14 4 rfl) rfl rfl ?_
  refine kw_callM (pc := 1267) (i := 845) (Y := mX8_lower) (xs := []) (st := []) kl_hE (kl_a14 5 rfl) lvL_170 arX8_lower (c_X8_lower_0 l T (by omega) (by omega) (kw_sh 61 (kw_mixX σ sX)) (by rw [kw_sh_mixX]; exact hM)  ) (by decide) (Nat.le_of_ble_eq_true rfl) rfl (fun _ _ q => by obtain ⟨-, r, rfl, -⟩ := q; exact fun _ _ => rfl) (fun v sM pM => ?_)
  obtain ⟨gM, rM, rfl, eM⟩ := pM
  rw [kw_sh_mixX] at gM eM
  have IM : kw_I (bM T) sM := by rw [gM]; exact hM
  have FM : kw_FM [] (kw_sh 61 σ) sM := by rw [gM]; exact kw_FM.rf
  have AX : kw_I bX (kw_mixM (kw_mixX σ sX) sM) := kw_IX_mixM (kw_IX_mixX IX)
  have AM : kw_I (bM T) (kw_sh 61 (kw_mixM (kw_mixX σ sX) sM)) := by rw [kw_sh_mixM]; exact IM
  have Q := kr_R.fr hR FX FM (by decide) (by decide)
  have AR : kr_R (kw_mixM (kw_mixX σ sX) sM) (kw_sh 61 (kw_mixM (kw_mixX σ sX) sM)) := by rw [kw_sh_mixM]; exact ⟨(Q).1.mix, (Q).2.1.mix, kr_D.mix (Q).2.1 (Q).2.2.1, (Q).2.2.2.mix⟩
  generalize (kw_mixM (kw_mixX σ sX) sM) = J at AX AM AR ⊢
  show kw_AW l 30 ((1002, L, xs) :: kw_E0) KJ mL_law kl_P 1270 [(3, .int x3), (2, .ref 61), (1, .ref 0), (0, .ref 1002)] [.long rM] J
  refine kw_pop2 (pc := 1270) (i := 846) (kl_a14 6 rfl) rfl ?_
  refine kw_goto (pc := 1271) (i := 847) (tgt := 1359) (kl_a14 7 rfl) rfl ?_
  exact hnext J T AX AM AR (by omega) (by omega)
set_option maxRecDepth 100000 in
set_option maxHeartbeats 4000000 in
theorem kl_case38 (l : Launch) (L : Nat) (xs : Nat → Int32) (hL : L ≤ 384) (x3 : Int32) (h0 : 0 ≤ x3.toInt) (h1 : x3.toInt + 6 ≤ L) (σ : kw_S) (T : Int) (hX : kw_I bX σ) (hM : kw_I (bM T) (kw_sh 61 σ)) (hR : kr_R σ (kw_sh 61 σ)) (hT0 : 0 ≤ T) (hT1 : T ≤ 2000) (hnext : ∀ (S : kw_S) (T' : Int), kw_I bX S → kw_I (bM T') (kw_sh 61 S) → kr_R S (kw_sh 61 S) → 0 ≤ T' → T' ≤ T + 20 → kw_AW l 30 ((1002, L, xs) :: kw_E0) KJ mL_law kl_P 1359 [(3, .int x3), (2, .ref 61), (1, .ref 0), (0, .ref 1002)] [] S) : kw_AW l 30 ((1002, L, xs) :: kw_E0) KJ mL_law kl_P 1274 [(3, .int x3), (2, .ref 61), (1, .ref 0), (0, .ref 1002)] [] σ := by
  have u1 : (x3 + 1).toInt = x3.toInt + 1 := by rw [kw_addI, show (1 : Int32).toInt = 1 from rfl]; omega
  have u2 : (x3 + 2).toInt = x3.toInt + 2 := by rw [kw_addI, show (2 : Int32).toInt = 2 from rfl]; omega
  have u3 : (x3 + 3).toInt = x3.toInt + 3 := by rw [kw_addI, show (3 : Int32).toInt = 3 from rfl]; omega
  have u4 : (x3 + 4).toInt = x3.toInt + 4 := by rw [kw_addI, show (4 : Int32).toInt = 4 from rfl]; omega
  have u5 : (x3 + 5).toInt = x3.toInt + 5 := by rw [kw_addI, show (5 : Int32).toInt = 5 from rfl]; omega
  refine kw_aload_n (pc := 1274) (i := 848) (k := 2) (n := 1) (kl_a14 8 rfl) rfl rfl ?_
  refine kw_aload_n (pc := 1275) (i := 849) (k := 3) (n := 0) (kl_a14 9 rfl) rfl rfl ?_
  refine kw_iload_n (pc := 1276) (i := 850) (k := 0) (n := 3) (kl_a14 10 rfl) rfl rfl ?_
  refine kw_iconst (pc := 1277) (i := 851) (v := 1) (kl_a14 11 rfl) rfl ?_
  refine kw_iadd (pc := 1278) (i := 852) (kl_a14 12 rfl) (fun z1 e_z1 t_z1 => ?_)
  subst e_z1
  clear t_z1
  refine kw_tld (pc := 1279) (i := 853) (k := 0) (n := L) (kl_a14 13 rfl) rfl (by omega) (by omega) (fun z2 e_z2 => ?_)
  subst e_z2
  refine kw_callX (pc := 1280) (i := 854) (Y := mX7_count) (xs := [xs (x3 + 1).toNatClampNeg]) (st := []) kl_hE (kl_a14 14 rfl) lvL_171 arX7_count (c_X7_count_0 l σ hX (xs (x3 + 1).toNatClampNeg) ) (by decide) (Nat.le_of_ble_eq_true rfl) rfl (fun v sX pX => ?_)
  obtain ⟨gX, rX, rfl, eX⟩ := pX
  have IX : kw_I bX sX := by rw [gX]; exact hX
  have FX : kw_F [] σ sX := by rw [gX]; exact kw_F.rf
  show kw_AW l 30 ((1002, L, xs) :: kw_E0) KJ mL_law kl_P 1283 [(3, .int x3), (2, .ref 61), (1, .ref 0), (0, .ref 1002)] [.int rX] (kw_mixX σ sX)
  refine kw_pop (pc := 1283) (i := 855) (kl_a14 15 rfl) rfl ?_
  refine kw_aload_n (pc := 1284) (i := 856) (k := 1) (n := 2) (kl_a14 16 rfl) rfl rfl ?_
  refine kw_aload_n (pc := 1285) (i := 857) (k := 3) (n := 0) (kl_a14 17 rfl) rfl rfl ?_
  refine kw_iload_n (pc := 1286) (i := 858) (k := 0) (n := 3) (kl_a14 18 rfl) rfl rfl ?_
  refine kw_iconst (pc := 1287) (i := 859) (v := 1) (kl_a14 19 rfl) rfl ?_
  refine kw_iadd (pc := 1288) (i := 860) (kl_a14 20 rfl) (fun z3 e_z3 t_z3 => ?_)
  subst e_z3
  clear t_z3
  refine kw_tld (pc := 1289) (i := 861) (k := 0) (n := L) (kl_a14 21 rfl) rfl (by omega) (by omega) (fun z4 e_z4 => ?_)
  subst e_z4
  refine kw_callM (pc := 1290) (i := 862) (Y := mX8_count) (xs := [xs (x3 + 1).toNatClampNeg]) (st := []) kl_hE (kl_a14 22 rfl) lvL_174 arX8_count (c_X8_count_0 l T (by omega) (by omega) (kw_sh 61 (kw_mixX σ sX)) (by rw [kw_sh_mixX]; exact hM) (xs (x3 + 1).toNatClampNeg) ) (by decide) (Nat.le_of_ble_eq_true rfl) rfl (fun _ _ q => by obtain ⟨-, r, rfl, -⟩ := q; exact fun _ _ => rfl) (fun v sM pM => ?_)
  obtain ⟨gM, rM, rfl, eM⟩ := pM
  rw [kw_sh_mixX] at gM eM
  have IM : kw_I (bM T) sM := by rw [gM]; exact hM
  have FM : kw_FM [] (kw_sh 61 σ) sM := by rw [gM]; exact kw_FM.rf
  have AX : kw_I bX (kw_mixM (kw_mixX σ sX) sM) := kw_IX_mixM (kw_IX_mixX IX)
  have AM : kw_I (bM T) (kw_sh 61 (kw_mixM (kw_mixX σ sX) sM)) := by rw [kw_sh_mixM]; exact IM
  have Q := (show kr_R sX sM ∧ rX = rM from ⟨kr_R.fr hR FX FM (by decide) (by decide), kr_count hR.1 hR.2.1 hR.2.2.1 hR.2.2.2 (xs (x3 + 1).toNatClampNeg) eX eM⟩)
  have AR : kr_R (kw_mixM (kw_mixX σ sX) sM) (kw_sh 61 (kw_mixM (kw_mixX σ sX) sM)) := by rw [kw_sh_mixM]; exact ⟨(Q.1).1.mix, (Q.1).2.1.mix, kr_D.mix (Q.1).2.1 (Q.1).2.2.1, (Q.1).2.2.2.mix⟩
  generalize (kw_mixM (kw_mixX σ sX) sM) = J at AX AM AR ⊢
  show kw_AW l 30 ((1002, L, xs) :: kw_E0) KJ mL_law kl_P 1293 [(3, .int x3), (2, .ref 61), (1, .ref 0), (0, .ref 1002)] [.int rM] J
  refine kw_pop (pc := 1293) (i := 863) (kl_a14 23 rfl) rfl ?_
  refine kw_goto (pc := 1294) (i := 864) (tgt := 1359) (kl_a14 24 rfl) rfl ?_
  exact hnext J T AX AM AR (by omega) (by omega)
set_option maxRecDepth 100000 in
set_option maxHeartbeats 4000000 in
theorem kl_case39 (l : Launch) (L : Nat) (xs : Nat → Int32) (hL : L ≤ 384) (x3 : Int32) (h0 : 0 ≤ x3.toInt) (h1 : x3.toInt + 6 ≤ L) (σ : kw_S) (T : Int) (hX : kw_I bX σ) (hM : kw_I (bM T) (kw_sh 61 σ)) (hR : kr_R σ (kw_sh 61 σ)) (hT0 : 0 ≤ T) (hT1 : T ≤ 2000) (hnext : ∀ (S : kw_S) (T' : Int), kw_I bX S → kw_I (bM T') (kw_sh 61 S) → kr_R S (kw_sh 61 S) → 0 ≤ T' → T' ≤ T + 20 → kw_AW l 30 ((1002, L, xs) :: kw_E0) KJ mL_law kl_P 1359 [(3, .int x3), (2, .ref 61), (1, .ref 0), (0, .ref 1002)] [] S) : kw_AW l 30 ((1002, L, xs) :: kw_E0) KJ mL_law kl_P 1297 [(3, .int x3), (2, .ref 61), (1, .ref 0), (0, .ref 1002)] [] σ := by
  have u1 : (x3 + 1).toInt = x3.toInt + 1 := by rw [kw_addI, show (1 : Int32).toInt = 1 from rfl]; omega
  have u2 : (x3 + 2).toInt = x3.toInt + 2 := by rw [kw_addI, show (2 : Int32).toInt = 2 from rfl]; omega
  have u3 : (x3 + 3).toInt = x3.toInt + 3 := by rw [kw_addI, show (3 : Int32).toInt = 3 from rfl]; omega
  have u4 : (x3 + 4).toInt = x3.toInt + 4 := by rw [kw_addI, show (4 : Int32).toInt = 4 from rfl]; omega
  have u5 : (x3 + 5).toInt = x3.toInt + 5 := by rw [kw_addI, show (5 : Int32).toInt = 5 from rfl]; omega
  refine kw_aload_n (pc := 1297) (i := 865) (k := 2) (n := 1) (kl_a14 25 rfl) rfl rfl ?_
  refine kw_callX (pc := 1298) (i := 866) (Y := mX7_miles) (xs := []) (st := []) kl_hE (kl_a14 26 rfl) lvL_175 arX7_miles (c_X7_miles_0 l σ hX  ) (by decide) (Nat.le_of_ble_eq_true rfl) rfl (fun v sX pX => ?_)
  obtain ⟨⟨IX, FX⟩, rX, rfl, eX⟩ := pX
  show kw_AW l 30 ((1002, L, xs) :: kw_E0) KJ mL_law kl_P 1301 [(3, .int x3), (2, .ref 61), (1, .ref 0), (0, .ref 1002)] [.int rX] (kw_mixX σ sX)
  refine kw_pop (pc := 1301) (i := 867) (kl_a14 27 rfl) rfl ?_
  refine kw_aload_n (pc := 1302) (i := 868) (k := 1) (n := 2) (kl_a14 28 rfl) rfl rfl ?_
  refine kw_callM (pc := 1303) (i := 869) (Y := mX8_miles) (xs := []) (st := []) kl_hE (kl_a14 29 rfl) lvL_178 arX8_miles (c_X8_miles_0 l T (by omega) (by omega) (kw_sh 61 (kw_mixX σ sX)) (by rw [kw_sh_mixX]; exact hM)  ) (by decide) (Nat.le_of_ble_eq_true rfl) rfl (fun _ _ q => by obtain ⟨-, r, rfl, -⟩ := q; exact fun _ _ => rfl) (fun v sM pM => ?_)
  obtain ⟨⟨IM, FM⟩, rM, rfl, eM⟩ := pM
  rw [kw_sh_mixX] at FM eM
  have AX : kw_I bX (kw_mixM (kw_mixX σ sX) sM) := kw_IX_mixM (kw_IX_mixX IX)
  have AM : kw_I (bM T) (kw_sh 61 (kw_mixM (kw_mixX σ sX) sM)) := by rw [kw_sh_mixM]; exact IM
  have Q := (show kr_R sX sM ∧ rX = rM from ⟨kr_R.fr hR FX FM (by decide) (by decide), kr_miles hR.2.2.1 eX eM⟩)
  have AR : kr_R (kw_mixM (kw_mixX σ sX) sM) (kw_sh 61 (kw_mixM (kw_mixX σ sX) sM)) := by rw [kw_sh_mixM]; exact ⟨(Q.1).1.mix, (Q.1).2.1.mix, kr_D.mix (Q.1).2.1 (Q.1).2.2.1, (Q.1).2.2.2.mix⟩
  generalize (kw_mixM (kw_mixX σ sX) sM) = J at AX AM AR ⊢
  show kw_AW l 30 ((1002, L, xs) :: kw_E0) KJ mL_law kl_P 1306 [(3, .int x3), (2, .ref 61), (1, .ref 0), (0, .ref 1002)] [.int rM] J
  refine kw_pop (pc := 1306) (i := 870) (kl_a14 30 rfl) rfl ?_
  refine kw_goto (pc := 1307) (i := 871) (tgt := 1359) (kl_a14 31 rfl) rfl ?_
  exact hnext J T AX AM AR (by omega) (by omega)
set_option maxRecDepth 100000 in
set_option maxHeartbeats 4000000 in
theorem kl_case40 (l : Launch) (L : Nat) (xs : Nat → Int32) (hL : L ≤ 384) (x3 : Int32) (h0 : 0 ≤ x3.toInt) (h1 : x3.toInt + 6 ≤ L) (σ : kw_S) (T : Int) (hX : kw_I bX σ) (hM : kw_I (bM T) (kw_sh 61 σ)) (hR : kr_R σ (kw_sh 61 σ)) (hT0 : 0 ≤ T) (hT1 : T ≤ 2000) (hnext : ∀ (S : kw_S) (T' : Int), kw_I bX S → kw_I (bM T') (kw_sh 61 S) → kr_R S (kw_sh 61 S) → 0 ≤ T' → T' ≤ T + 20 → kw_AW l 30 ((1002, L, xs) :: kw_E0) KJ mL_law kl_P 1359 [(3, .int x3), (2, .ref 61), (1, .ref 0), (0, .ref 1002)] [] S) : kw_AW l 30 ((1002, L, xs) :: kw_E0) KJ mL_law kl_P 1310 [(3, .int x3), (2, .ref 61), (1, .ref 0), (0, .ref 1002)] [] σ := by
  have u1 : (x3 + 1).toInt = x3.toInt + 1 := by rw [kw_addI, show (1 : Int32).toInt = 1 from rfl]; omega
  have u2 : (x3 + 2).toInt = x3.toInt + 2 := by rw [kw_addI, show (2 : Int32).toInt = 2 from rfl]; omega
  have u3 : (x3 + 3).toInt = x3.toInt + 3 := by rw [kw_addI, show (3 : Int32).toInt = 3 from rfl]; omega
  have u4 : (x3 + 4).toInt = x3.toInt + 4 := by rw [kw_addI, show (4 : Int32).toInt = 4 from rfl]; omega
  have u5 : (x3 + 5).toInt = x3.toInt + 5 := by rw [kw_addI, show (5 : Int32).toInt = 5 from rfl]; omega
  refine kw_aload_n (pc := 1310) (i := 872) (k := 2) (n := 1) (kl_a14 32 rfl) rfl rfl ?_
  refine kw_callX (pc := 1311) (i := 873) (Y := mX7_finding) (xs := []) (st := []) kl_hE (kl_a14 33 rfl) lvL_179 arX7_finding (c_X7_finding_0 l σ hX  ) (by decide) (Nat.le_of_ble_eq_true rfl) rfl (fun v sX pX => ?_)
  obtain ⟨gX, rX, rfl, eX⟩ := pX
  have IX : kw_I bX sX := by rw [gX]; exact hX
  have FX : kw_F [] σ sX := by rw [gX]; exact kw_F.rf
  show kw_AW l 30 ((1002, L, xs) :: kw_E0) KJ mL_law kl_P 1314 [(3, .int x3), (2, .ref 61), (1, .ref 0), (0, .ref 1002)] [.int rX] (kw_mixX σ sX)
  refine kw_pop (pc := 1314) (i := 874) (kl_a14 34 rfl) rfl ?_
  refine kw_aload_n (pc := 1315) (i := 875) (k := 1) (n := 2) (kl_a14 35 rfl) rfl rfl ?_
  refine kw_callM (pc := 1316) (i := 876) (Y := mX8_finding) (xs := []) (st := []) kl_hE (kl_a14 36 rfl) lvL_182 arX8_finding (c_X8_finding_0 l T (by omega) (by omega) (kw_sh 61 (kw_mixX σ sX)) (by rw [kw_sh_mixX]; exact hM)  ) (by decide) (Nat.le_of_ble_eq_true rfl) rfl (fun _ _ q => by obtain ⟨-, r, rfl, -⟩ := q; exact fun _ _ => rfl) (fun v sM pM => ?_)
  obtain ⟨gM, rM, rfl, eM⟩ := pM
  rw [kw_sh_mixX] at gM eM
  have IM : kw_I (bM T) sM := by rw [gM]; exact hM
  have FM : kw_FM [] (kw_sh 61 σ) sM := by rw [gM]; exact kw_FM.rf
  have AX : kw_I bX (kw_mixM (kw_mixX σ sX) sM) := kw_IX_mixM (kw_IX_mixX IX)
  have AM : kw_I (bM T) (kw_sh 61 (kw_mixM (kw_mixX σ sX) sM)) := by rw [kw_sh_mixM]; exact IM
  have Q := kr_R.fr hR FX FM (by decide) (by decide)
  have AR : kr_R (kw_mixM (kw_mixX σ sX) sM) (kw_sh 61 (kw_mixM (kw_mixX σ sX) sM)) := by rw [kw_sh_mixM]; exact ⟨(Q).1.mix, (Q).2.1.mix, kr_D.mix (Q).2.1 (Q).2.2.1, (Q).2.2.2.mix⟩
  generalize (kw_mixM (kw_mixX σ sX) sM) = J at AX AM AR ⊢
  show kw_AW l 30 ((1002, L, xs) :: kw_E0) KJ mL_law kl_P 1319 [(3, .int x3), (2, .ref 61), (1, .ref 0), (0, .ref 1002)] [.int rM] J
  refine kw_pop (pc := 1319) (i := 877) (kl_a14 37 rfl) rfl ?_
  refine kw_goto (pc := 1320) (i := 878) (tgt := 1359) (kl_a14 38 rfl) rfl ?_
  exact hnext J T AX AM AR (by omega) (by omega)
set_option maxRecDepth 100000 in
set_option maxHeartbeats 4000000 in
theorem kl_case41 (l : Launch) (L : Nat) (xs : Nat → Int32) (hL : L ≤ 384) (x3 : Int32) (h0 : 0 ≤ x3.toInt) (h1 : x3.toInt + 6 ≤ L) (σ : kw_S) (T : Int) (hX : kw_I bX σ) (hM : kw_I (bM T) (kw_sh 61 σ)) (hR : kr_R σ (kw_sh 61 σ)) (hT0 : 0 ≤ T) (hT1 : T ≤ 2000) (hnext : ∀ (S : kw_S) (T' : Int), kw_I bX S → kw_I (bM T') (kw_sh 61 S) → kr_R S (kw_sh 61 S) → 0 ≤ T' → T' ≤ T + 20 → kw_AW l 30 ((1002, L, xs) :: kw_E0) KJ mL_law kl_P 1359 [(3, .int x3), (2, .ref 61), (1, .ref 0), (0, .ref 1002)] [] S) : kw_AW l 30 ((1002, L, xs) :: kw_E0) KJ mL_law kl_P 1323 [(3, .int x3), (2, .ref 61), (1, .ref 0), (0, .ref 1002)] [] σ := by
  have u1 : (x3 + 1).toInt = x3.toInt + 1 := by rw [kw_addI, show (1 : Int32).toInt = 1 from rfl]; omega
  have u2 : (x3 + 2).toInt = x3.toInt + 2 := by rw [kw_addI, show (2 : Int32).toInt = 2 from rfl]; omega
  have u3 : (x3 + 3).toInt = x3.toInt + 3 := by rw [kw_addI, show (3 : Int32).toInt = 3 from rfl]; omega
  have u4 : (x3 + 4).toInt = x3.toInt + 4 := by rw [kw_addI, show (4 : Int32).toInt = 4 from rfl]; omega
  have u5 : (x3 + 5).toInt = x3.toInt + 5 := by rw [kw_addI, show (5 : Int32).toInt = 5 from rfl]; omega
  refine kw_aload_n (pc := 1323) (i := 879) (k := 2) (n := 1) (kl_a14 39 rfl) rfl rfl ?_
  refine kw_aload_n (pc := 1324) (i := 880) (k := 3) (n := 0) (kl_a14 40 rfl) rfl rfl ?_
  refine kw_iload_n (pc := 1325) (i := 881) (k := 0) (n := 3) (kl_a14 41 rfl) rfl rfl ?_
  refine kw_iconst (pc := 1326) (i := 882) (v := 1) (kl_a14 42 rfl) rfl ?_
  refine kw_iadd (pc := 1327) (i := 883) (kl_a14 43 rfl) (fun z1 e_z1 t_z1 => ?_)
  subst e_z1
  clear t_z1
  refine kw_tld (pc := 1328) (i := 884) (k := 0) (n := L) (kl_a14 44 rfl) rfl (by omega) (by omega) (fun z2 e_z2 => ?_)
  subst e_z2
  refine kw_callX (pc := 1329) (i := 885) (Y := mX7_findings) (xs := [xs (x3 + 1).toNatClampNeg]) (st := []) kl_hE (kl_a14 45 rfl) lvL_183 arX7_findings (c_X7_findings_0 l σ hX (xs (x3 + 1).toNatClampNeg) ) (by decide) (Nat.le_of_ble_eq_true rfl) rfl (fun v sX pX => ?_)
  obtain ⟨gX, rX, rfl, eX⟩ := pX
  have IX : kw_I bX sX := by rw [gX]; exact hX
  have FX : kw_F [] σ sX := by rw [gX]; exact kw_F.rf
  show kw_AW l 30 ((1002, L, xs) :: kw_E0) KJ mL_law kl_P 1332 [(3, .int x3), (2, .ref 61), (1, .ref 0), (0, .ref 1002)] [.int rX] (kw_mixX σ sX)
  refine kw_pop (pc := 1332) (i := 886) (kl_a14 46 rfl) rfl ?_
  refine kw_aload_n (pc := 1333) (i := 887) (k := 1) (n := 2) (kl_a14 47 rfl) rfl rfl ?_
  refine kw_aload_n (pc := 1334) (i := 888) (k := 3) (n := 0) (kl_a14 48 rfl) rfl rfl ?_
  refine kw_iload_n (pc := 1335) (i := 889) (k := 0) (n := 3) (kl_a14 49 rfl) rfl rfl ?_
  refine kw_iconst (pc := 1336) (i := 890) (v := 1) (kl_a14 50 rfl) rfl ?_
  refine kw_iadd (pc := 1337) (i := 891) (kl_a14 51 rfl) (fun z3 e_z3 t_z3 => ?_)
  subst e_z3
  clear t_z3
  refine kw_tld (pc := 1338) (i := 892) (k := 0) (n := L) (kl_a14 52 rfl) rfl (by omega) (by omega) (fun z4 e_z4 => ?_)
  subst e_z4
  refine kw_callM (pc := 1339) (i := 893) (Y := mX8_findings) (xs := [xs (x3 + 1).toNatClampNeg]) (st := []) kl_hE (kl_a14 53 rfl) lvL_186 arX8_findings (c_X8_findings_0 l T (by omega) (by omega) (kw_sh 61 (kw_mixX σ sX)) (by rw [kw_sh_mixX]; exact hM) (xs (x3 + 1).toNatClampNeg) ) (by decide) (Nat.le_of_ble_eq_true rfl) rfl (fun _ _ q => by obtain ⟨-, r, rfl, -⟩ := q; exact fun _ _ => rfl) (fun v sM pM => ?_)
  obtain ⟨gM, rM, rfl, eM⟩ := pM
  rw [kw_sh_mixX] at gM eM
  have IM : kw_I (bM T) sM := by rw [gM]; exact hM
  have FM : kw_FM [] (kw_sh 61 σ) sM := by rw [gM]; exact kw_FM.rf
  have AX : kw_I bX (kw_mixM (kw_mixX σ sX) sM) := kw_IX_mixM (kw_IX_mixX IX)
  have AM : kw_I (bM T) (kw_sh 61 (kw_mixM (kw_mixX σ sX) sM)) := by rw [kw_sh_mixM]; exact IM
  have Q := kr_R.fr hR FX FM (by decide) (by decide)
  have AR : kr_R (kw_mixM (kw_mixX σ sX) sM) (kw_sh 61 (kw_mixM (kw_mixX σ sX) sM)) := by rw [kw_sh_mixM]; exact ⟨(Q).1.mix, (Q).2.1.mix, kr_D.mix (Q).2.1 (Q).2.2.1, (Q).2.2.2.mix⟩
  generalize (kw_mixM (kw_mixX σ sX) sM) = J at AX AM AR ⊢
  show kw_AW l 30 ((1002, L, xs) :: kw_E0) KJ mL_law kl_P 1342 [(3, .int x3), (2, .ref 61), (1, .ref 0), (0, .ref 1002)] [.int rM] J
  refine kw_pop (pc := 1342) (i := 894) (kl_a14 54 rfl) rfl ?_
  refine kw_goto (pc := 1343) (i := 895) (tgt := 1359) (kl_a14 55 rfl) rfl ?_
  exact hnext J T AX AM AR (by omega) (by omega)
set_option maxRecDepth 100000 in
set_option maxHeartbeats 4000000 in
theorem kl_case42 (l : Launch) (L : Nat) (xs : Nat → Int32) (hL : L ≤ 384) (x3 : Int32) (h0 : 0 ≤ x3.toInt) (h1 : x3.toInt + 6 ≤ L) (σ : kw_S) (T : Int) (hX : kw_I bX σ) (hM : kw_I (bM T) (kw_sh 61 σ)) (hR : kr_R σ (kw_sh 61 σ)) (hT0 : 0 ≤ T) (hT1 : T ≤ 2000) (hnext : ∀ (S : kw_S) (T' : Int), kw_I bX S → kw_I (bM T') (kw_sh 61 S) → kr_R S (kw_sh 61 S) → 0 ≤ T' → T' ≤ T + 20 → kw_AW l 30 ((1002, L, xs) :: kw_E0) KJ mL_law kl_P 1359 [(3, .int x3), (2, .ref 61), (1, .ref 0), (0, .ref 1002)] [] S) : kw_AW l 30 ((1002, L, xs) :: kw_E0) KJ mL_law kl_P 1346 [(3, .int x3), (2, .ref 61), (1, .ref 0), (0, .ref 1002)] [] σ := by
  have u1 : (x3 + 1).toInt = x3.toInt + 1 := by rw [kw_addI, show (1 : Int32).toInt = 1 from rfl]; omega
  have u2 : (x3 + 2).toInt = x3.toInt + 2 := by rw [kw_addI, show (2 : Int32).toInt = 2 from rfl]; omega
  have u3 : (x3 + 3).toInt = x3.toInt + 3 := by rw [kw_addI, show (3 : Int32).toInt = 3 from rfl]; omega
  have u4 : (x3 + 4).toInt = x3.toInt + 4 := by rw [kw_addI, show (4 : Int32).toInt = 4 from rfl]; omega
  have u5 : (x3 + 5).toInt = x3.toInt + 5 := by rw [kw_addI, show (5 : Int32).toInt = 5 from rfl]; omega
  refine kw_aload_n (pc := 1346) (i := 896) (k := 2) (n := 1) (kl_a14 56 rfl) rfl rfl ?_
  refine kw_callX (pc := 1347) (i := 897) (Y := mX7_digest) (xs := []) (st := []) kl_hE (kl_a14 57 rfl) lvL_187 arX7_digest (c_X7_digest_0 l σ hX  ) (by decide) (Nat.le_of_ble_eq_true rfl) rfl (fun v sX pX => ?_)
  obtain ⟨gX, rX, rfl, eX⟩ := pX
  have IX : kw_I bX sX := by rw [gX]; exact hX
  have FX : kw_F [] σ sX := by rw [gX]; exact kw_F.rf
  show kw_AW l 30 ((1002, L, xs) :: kw_E0) KJ mL_law kl_P 1350 [(3, .int x3), (2, .ref 61), (1, .ref 0), (0, .ref 1002)] [.long rX] (kw_mixX σ sX)
  refine kw_pop2 (pc := 1350) (i := 898) (kl_a14 58 rfl) rfl ?_
  refine kw_aload_n (pc := 1351) (i := 899) (k := 1) (n := 2) (kl_a14 59 rfl) rfl rfl ?_
  refine kw_callM (pc := 1352) (i := 900) (Y := mX8_digest) (xs := []) (st := []) kl_hE (kl_a15 0 rfl) lvL_190 arX8_digest (c_X8_digest_0 l T (by omega) (by omega) (kw_sh 61 (kw_mixX σ sX)) (by rw [kw_sh_mixX]; exact hM)  ) (by decide) (Nat.le_of_ble_eq_true rfl) rfl (fun _ _ q => by obtain ⟨-, r, rfl, -⟩ := q; exact fun _ _ => rfl) (fun v sM pM => ?_)
  obtain ⟨⟨IM, FM⟩, rM, rfl, eM⟩ := pM
  rw [kw_sh_mixX] at FM eM
  have AX : kw_I bX (kw_mixM (kw_mixX σ sX) sM) := kw_IX_mixM (kw_IX_mixX IX)
  have AM : kw_I (bM T) (kw_sh 61 (kw_mixM (kw_mixX σ sX) sM)) := by rw [kw_sh_mixM]; exact IM
  have Q := (show kr_R sX sM ∧ rX = rM from ⟨kr_R.fr hR FX FM (by decide) (by decide), kr_digest hX hR.1 hR.2.1 hR.2.2.1 hR.2.2.2 eX eM⟩)
  have AR : kr_R (kw_mixM (kw_mixX σ sX) sM) (kw_sh 61 (kw_mixM (kw_mixX σ sX) sM)) := by rw [kw_sh_mixM]; exact ⟨(Q.1).1.mix, (Q.1).2.1.mix, kr_D.mix (Q.1).2.1 (Q.1).2.2.1, (Q.1).2.2.2.mix⟩
  generalize (kw_mixM (kw_mixX σ sX) sM) = J at AX AM AR ⊢
  show kw_AW l 30 ((1002, L, xs) :: kw_E0) KJ mL_law kl_P 1355 [(3, .int x3), (2, .ref 61), (1, .ref 0), (0, .ref 1002)] [.long rM] J
  refine kw_pop2 (pc := 1355) (i := 901) (kl_a15 1 rfl) rfl ?_
  refine kw_goto (pc := 1356) (i := 902) (tgt := 1359) (kl_a15 2 rfl) rfl ?_
  exact hnext J T AX AM AR (by omega) (by omega)
