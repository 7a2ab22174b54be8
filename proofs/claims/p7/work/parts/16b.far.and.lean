section
noncomputable def f_X8_farBy_0 (σ : kw_S) (n : Int32) (t : Int32) : Int32 × kw_S := if n.toInt = 0 then f_X8_farByvn0_0 σ t else if n.toInt = 1 then f_X8_farByvn1_0 σ t else if n.toInt = 2 then f_X8_farByvn2_0 σ t else f_X8_farByvn3_0 σ t
abbrev p_X8_farBy_0 (T : Int) (σ : kw_S) (n : Int32) (t : Int32) : Option Value → kw_S → Prop := fun vv σ' => (kw_I (bM T) σ' ∧ kw_FM [20] σ σ') ∧ ∃ r : Int32, vv = some (.int r) ∧ (r, σ') = f_X8_farBy_0 σ n t
theorem c_X8_farBy_0 (l : Launch) (T : Int) (hT0 : 0 ≤ T) (hT1 : T ≤ 3000) (σ : kw_S) (hI : kw_I (bM T) σ) (n : Int32) (t : Int32) (hp0 : 0 ≤ n.toInt) (hp1 : n.toInt ≤ 3) : kw_Met l 2 KM mX8_farBy [.ref 0, .int n, .int t] σ (p_X8_farBy_0 T σ n t) := by
  have h : n.toInt = 0 ∨ n.toInt = 1 ∨ n.toInt = 2 ∨ n.toInt = 3 := by omega
  rcases h with h | h | h | h
  · have e : n = 0 := Int32.toInt_inj.mp (h.trans (show (0 : Int) = (0 : Int32).toInt from rfl))
    subst e
    exact c_X8_farByvn0_0 l T hT0 hT1 σ hI t
  · have e : n = 1 := Int32.toInt_inj.mp (h.trans (show (1 : Int) = (1 : Int32).toInt from rfl))
    subst e
    exact c_X8_farByvn1_0 l T hT0 hT1 σ hI t
  · have e : n = 2 := Int32.toInt_inj.mp (h.trans (show (2 : Int) = (2 : Int32).toInt from rfl))
    subst e
    exact c_X8_farByvn2_0 l T hT0 hT1 σ hI t
  · have e : n = 3 := Int32.toInt_inj.mp (h.trans (show (3 : Int) = (3 : Int32).toInt from rfl))
    subst e
    exact c_X8_farByvn3_0 l T hT0 hT1 σ hI t
end
section
noncomputable def l_X8_far_0_71 (a1 : Int32) (a2 : Int32) (a3 : Int32) (a4 : Int32) : Nat → Int32 → kw_S → Int32 × kw_S
  | 0, _, S => (0, S)
  | n + 1, x5, S => if x5.toInt < (40 : Int32).toInt then (if x5.toInt < a1.toInt then (kf_l (S.1 20 x5.toNatClampNeg) fun z11 => kf_l (f_X8_setRow_0 S a3 x5 z11) fun S12 => kf_l (x5 + Int32.ofInt 1) fun z13 => l_X8_far_0_71 a1 a2 a3 a4 n z13 S12) else (kf_l (f_X8_setRow_0 S a3 x5 (0 : Int32)) fun S9 => kf_l (x5 + Int32.ofInt 1) fun z10 => l_X8_far_0_71 a1 a2 a3 a4 n z10 S9)) else (kf_b (f_X8_ask_0 S a4 (1 : Int32)) fun z7 S8 => (z7, S8))
theorem l_X8_far_0_71_s (a1 : Int32) (a2 : Int32) (a3 : Int32) (a4 : Int32) (n : Nat) (x5 : Int32) (S : kw_S) : l_X8_far_0_71 a1 a2 a3 a4 (n + 1) x5 S = if x5.toInt < (40 : Int32).toInt then (if x5.toInt < a1.toInt then (kf_l (S.1 20 x5.toNatClampNeg) fun z11 => kf_l (f_X8_setRow_0 S a3 x5 z11) fun S12 => kf_l (x5 + Int32.ofInt 1) fun z13 => l_X8_far_0_71 a1 a2 a3 a4 n z13 S12) else (kf_l (f_X8_setRow_0 S a3 x5 (0 : Int32)) fun S9 => kf_l (x5 + Int32.ofInt 1) fun z10 => l_X8_far_0_71 a1 a2 a3 a4 n z10 S9)) else (kf_b (f_X8_ask_0 S a4 (1 : Int32)) fun z7 S8 => (z7, S8)) := rfl
noncomputable def f_X8_far_0 (σ : kw_S) (n : Int32) (t : Int32) (a : Int32) : Int32 × kw_S := kf_l (f_X8_in σ n (0 : Int32) (3 : Int32)) fun z1 => if z1.toInt = 0 then ((((-1) : Int32), σ)) else (kf_l (f_X8_in σ t (0 : Int32) (999 : Int32)) fun z2 => if z2.toInt = 0 then ((((-1) : Int32), σ)) else (kf_l (f_X8_isRow σ a) fun z3 => if z3.toInt = 0 then ((((-1) : Int32), σ)) else (if (σ.1 0 10).toInt = 0 then ((((-4) : Int32), σ)) else (kf_l (f_X8_setHours_0 σ) fun S4 => kf_b (f_X8_farBy_0 S4 n t) fun z5 S6 => if z5.toInt = ((-1048576) : Int32).toInt then ((((-9) : Int32), S6)) else (l_X8_far_0_71 n t a z5 ((41 - (0 : Int32).toInt).toNat + 1) (0 : Int32) (kw_ui S6 2 a.toNatClampNeg n))))))
theorem f_X8_far_0_u (σ : kw_S) (n : Int32) (t : Int32) (a : Int32) : f_X8_far_0 σ n t a = kf_l (f_X8_in σ n (0 : Int32) (3 : Int32)) fun z1 => if z1.toInt = 0 then ((((-1) : Int32), σ)) else (kf_l (f_X8_in σ t (0 : Int32) (999 : Int32)) fun z2 => if z2.toInt = 0 then ((((-1) : Int32), σ)) else (kf_l (f_X8_isRow σ a) fun z3 => if z3.toInt = 0 then ((((-1) : Int32), σ)) else (if (σ.1 0 10).toInt = 0 then ((((-4) : Int32), σ)) else (kf_l (f_X8_setHours_0 σ) fun S4 => kf_b (f_X8_farBy_0 S4 n t) fun z5 S6 => if z5.toInt = ((-1048576) : Int32).toInt then ((((-9) : Int32), S6)) else (l_X8_far_0_71 n t a z5 ((41 - (0 : Int32).toInt).toNat + 1) (0 : Int32) (kw_ui S6 2 a.toNatClampNeg n)))))) := rfl
abbrev p_X8_far_0 (T : Int) (σ : kw_S) (n : Int32) (t : Int32) (a : Int32) : Option Value → kw_S → Prop := fun vv σ' => (kw_I (bM T) σ' ∧ kw_FM [2, 3, 18, 19, 20, 1002] σ σ') ∧ ∃ r : Int32, vv = some (.int r) ∧ (r, σ') = f_X8_far_0 σ n t a
set_option maxRecDepth 100000 in
set_option maxHeartbeats 4000000 in
theorem c_X8_far_0 (l : Launch) (T : Int) (hT0 : 0 ≤ T) (hT1 : T ≤ 3000) (σ : kw_S) (hI : kw_I (bM T) σ) (n : Int32) (t : Int32) (a : Int32) : kw_Met l 5 KM mX8_far [.ref 0, .int n, .int t, .int a] σ (p_X8_far_0 T σ n t a) := by
  have r_n := kw_rng n
  have r_t := kw_rng t
  have r_a := kw_rng a
  have hF0 : kw_FM [2, 3, 18, 19, 20, 1002] σ σ := kw_FM.rf
  have hF := (f_X8_far_0_u σ n t a).symm
  have q_m1048576 : (-1048576 : Int32).toInt = -1048576 := rfl
  have q_m9 : (-9 : Int32).toInt = -9 := rfl
  have q_m4 : (-4 : Int32).toInt = -4 := rfl
  have q_m1 : (-1 : Int32).toInt = -1 := rfl
  have q_0 : (0 : Int32).toInt = 0 := rfl
  have q_1 : (1 : Int32).toInt = 1 := rfl
  have q_3 : (3 : Int32).toInt = 3 := rfl
  have q_40 : (40 : Int32).toInt = 40 := rfl
  have q_999 : (999 : Int32).toInt = 999 := rfl
  refine kw_Met.of (by decide) rfl tX8_far (Nat.le_of_ble_eq_true rfl) ?_
  show kw_AW l 5 kw_E0 KM mX8_far (p_X8_far_0 T σ n t a) 0 [(0, .ref 0), (1, .int n), (2, .int t), (3, .int a)] [] σ
  refine kw_iload_n (pc := 0) (i := 0) (k := 1) (n := 1) rfl rfl rfl ?_
  refine kw_iconst (pc := 1) (i := 1) (v := 0) rfl rfl ?_
  refine kw_iconst (pc := 2) (i := 2) (v := 3) rfl rfl ?_
  refine kw_callS (pc := 3) (i := 3) (Y := mX8_in) (As := [.int n, .int 0, .int 3]) (st := []) kw_hE rfl lsX8_93 arX8_in (c_X8_in l T hT0 hT1 σ hI n 0 3 ) (by decide) (Nat.le_of_ble_eq_true rfl) rfl (fun v S2 p1 => ?_)
  obtain ⟨e8, z7, rfl, f3, f4, f5, ef6⟩ := p1
  rw [e8]
  replace hF := kf_le ef6 hF
  have r_z7 := kw_rng z7
  show kw_AW l 5 kw_E0 KM mX8_far (p_X8_far_0 T σ n t a) 6 [(0, .ref 0), (1, .int n), (2, .int t), (3, .int a)] [.int z7] σ
  refine kw_if_eq (pc := 6) (i := 4) (tgt := 27) rfl rfl (fun c9 => ?_) (fun c9 => ?_)
  · replace hF := kf_p c9 hF
    refine kw_iconst (pc := 27) (i := 13) (v := (-1)) rfl rfl ?_
    exact kw_ireturn (pc := 28) (i := 14) (ty := .int) rfl rfl rfl ⟨⟨hI, hF0⟩, _, rfl, hF⟩
  · replace hF := kf_n c9 hF
    refine kw_iload_n (pc := 9) (i := 5) (k := 2) (n := 2) rfl rfl rfl ?_
    refine kw_iconst (pc := 10) (i := 6) (v := 0) rfl rfl ?_
    refine kw_sipush (pc := 11) (i := 7) (v := 999) rfl rfl ?_
    refine kw_callS (pc := 14) (i := 8) (Y := mX8_in) (As := [.int t, .int 0, .int 999]) (st := []) kw_hE rfl lsX8_93 arX8_in (c_X8_in l T hT0 hT1 σ hI t 0 999 ) (by decide) (Nat.le_of_ble_eq_true rfl) rfl (fun v S11 p10 => ?_)
    obtain ⟨e17, z16, rfl, f12, f13, f14, ef15⟩ := p10
    rw [e17]
    replace hF := kf_le ef15 hF
    have r_z16 := kw_rng z16
    show kw_AW l 5 kw_E0 KM mX8_far (p_X8_far_0 T σ n t a) 17 [(0, .ref 0), (1, .int n), (2, .int t), (3, .int a)] [.int z16] σ
    refine kw_if_eq (pc := 17) (i := 9) (tgt := 27) rfl rfl (fun c18 => ?_) (fun c18 => ?_)
    · replace hF := kf_p c18 hF
      refine kw_iconst (pc := 27) (i := 13) (v := (-1)) rfl rfl ?_
      exact kw_ireturn (pc := 28) (i := 14) (ty := .int) rfl rfl rfl ⟨⟨hI, hF0⟩, _, rfl, hF⟩
    · replace hF := kf_n c18 hF
      refine kw_iload_n (pc := 20) (i := 10) (k := 3) (n := 3) rfl rfl rfl ?_
      refine kw_callS (pc := 21) (i := 11) (Y := mX8_isRow) (As := [.int a]) (st := []) kw_hE rfl lsX8_97 arX8_isRow (c_X8_isRow l T hT0 hT1 σ hI a ) (by decide) (Nat.le_of_ble_eq_true rfl) rfl (fun v S20 p19 => ?_)
      obtain ⟨e26, z25, rfl, f21, f22, f23, ef24⟩ := p19
      rw [e26]
      replace hF := kf_le ef24 hF
      have r_z25 := kw_rng z25
      show kw_AW l 5 kw_E0 KM mX8_far (p_X8_far_0 T σ n t a) 24 [(0, .ref 0), (1, .int n), (2, .int t), (3, .int a)] [.int z25] σ
      refine kw_if_ne (pc := 24) (i := 12) (tgt := 29) rfl rfl (fun c27 => ?_) (fun c27 => ?_)
      · replace hF := kf_n c27 hF
        refine kw_aload_n (pc := 29) (i := 15) (k := 0) (n := 0) rfl rfl rfl ?_
        refine kw_get (pc := 30) (i := 16) (v := .int (σ.1 0 10)) rfl rfl rfl lkX8_163 (fun _ => rfl) ?_
        have b28 : 0 ≤ (σ.1 0 10).toInt ∧ (σ.1 0 10).toInt ≤ 6 := hI 0 10
        refine kw_if_ne (pc := 33) (i := 17) (tgt := 39) rfl rfl (fun c29 => ?_) (fun c29 => ?_)
        · replace hF := kf_n c29 hF
          refine kw_aload_n (pc := 39) (i := 20) (k := 0) (n := 0) rfl rfl rfl ?_
          refine kw_callV (pc := 40) (i := 21) (Y := mX8_setHours) (a := 0) (As := []) (st := []) kw_hE rfl rfl lvX8_259 arX8_setHours (c_X8_setHours_0 l T hT0 hT1 σ hI  ) (by decide) (Nat.le_of_ble_eq_true rfl) rfl (fun v S31 p30 => ?_)
          obtain ⟨⟨I33, F34⟩, rfl, ef32⟩ := p30
          have F35 : kw_FM [2, 3, 18, 19, 20, 1002] σ S31 := kw_FM.tr hF0 F34 (by decide)
          have w_36 : (S31.1 0 27).toInt = (σ.1 0 27).toInt := congrArg Int32.toInt (kw_FM.at0 (j := 27) F34 (by decide))
          replace hF := kf_le ef32 hF
          show kw_AW l 5 kw_E0 KM mX8_far (p_X8_far_0 T σ n t a) 43 [(0, .ref 0), (1, .int n), (2, .int t), (3, .int a)] [] S31
          refine kw_aload_n (pc := 43) (i := 22) (k := 0) (n := 0) rfl rfl rfl ?_
          refine kw_iload_n (pc := 44) (i := 23) (k := 1) (n := 1) rfl rfl rfl ?_
          refine kw_iload_n (pc := 45) (i := 24) (k := 2) (n := 2) rfl rfl rfl ?_
          refine kw_callV (pc := 46) (i := 25) (Y := mX8_farBy) (a := 0) (As := [.int n, .int t]) (st := []) kw_hE rfl rfl lvX8_262 arX8_farBy (c_X8_farBy_0 l T hT0 hT1 S31 I33 n t (by first | omega | decide) (by first | omega | decide)) (by decide) (Nat.le_of_ble_eq_true rfl) rfl (fun v S38 p37 => ?_)
          obtain ⟨⟨I41, F42⟩, z40, rfl, ef39⟩ := p37
          have F43 : kw_FM [2, 3, 18, 19, 20, 1002] σ S38 := kw_FM.tr F35 F42 (by decide)
          have w_44 : (S38.1 0 27).toInt = (S31.1 0 27).toInt := congrArg Int32.toInt (kw_FM.at0 (j := 27) F42 (by decide))
          replace hF := kf_be ef39 hF
          have r_z40 := kw_rng z40
          show kw_AW l 5 kw_E0 KM mX8_far (p_X8_far_0 T σ n t a) 49 [(0, .ref 0), (1, .int n), (2, .int t), (3, .int a)] [.int z40] S38
          refine kw_istore (pc := 49) (i := 26) (n := 4) (lv' := [(4, .int z40), (0, .ref 0), (1, .int n), (2, .int t), (3, .int a)]) rfl (by decide) rfl ?_
          refine kw_iload (pc := 51) (i := 27) (k := 0) (n := 4) rfl rfl ?_
          refine kw_ldc (pc := 53) (i := 28) (v := (-1048576)) rfl ckX8_255 ?_
          refine kw_icmp_ne (pc := 55) (i := 29) (tgt := 61) rfl rfl (fun c45 => ?_) (fun c45 => ?_)
          · replace hF := kf_n c45 hF
            refine kw_aload_n (pc := 61) (i := 32) (k := 1) (n := 0) rfl rfl rfl ?_
            refine kw_get (pc := 62) (i := 33) (v := .ref 2) rfl rfl rfl lkX8_17 (fun _ => rfl) ?_
            refine kw_iload_n (pc := 65) (i := 34) (k := 4) (n := 3) rfl rfl rfl ?_
            refine kw_iload_n (pc := 66) (i := 35) (k := 2) (n := 1) rfl rfl rfl ?_
            refine kw_iast (pc := 67) (i := 36) (n := 6) rfl rfl (by omega) (by omega) ?_
            have I46 : kw_I (bM T) (kw_ui S38 2 a.toNatClampNeg n) := kw_I_ui I41 (show -9 ≤ n.toInt by omega) (show n.toInt ≤ 40 by omega)
            have F47 : kw_FM [2, 3, 18, 19, 20, 1002] σ (kw_ui S38 2 a.toNatClampNeg n) := kw_FM_ui F43 (by decide) (by decide)
            refine kw_iconst (pc := 68) (i := 37) (v := 0) rfl rfl ?_
            refine kw_istore (pc := 69) (i := 38) (n := 5) (lv' := [(5, .int 0), (4, .int z40), (0, .ref 0), (1, .int n), (2, .int t), (3, .int a)]) rfl (by decide) rfl ?_
            have L52 : ∀ (n56 : Nat) (x48 : Int32) (S49 : kw_S), kw_I (bM T) S49 → kw_FM [2, 3, 18, 19, 20, 1002] σ S49 → 0 ≤ x48.toInt → l_X8_far_0_71 n t a z40 n56 x48 S49 = (f_X8_far_0 σ n t a) → (41 - x48.toInt).toNat < n56 → kw_AW l 5 kw_E0 KM mX8_far (p_X8_far_0 T σ n t a) 71 [(5, .int x48), (4, .int z40), (0, .ref 0), (1, .int n), (2, .int t), (3, .int a)] [] S49 := by
              intro n56
              induction n56 with
              | zero => intro x48 S49 I50 F51 v54 hF m55; exact absurd m55 (Nat.not_lt_zero _)
              | succ n56 ih53 =>
                intro x48 S49 I50 F51 v54 hF m55
                replace hF := kf_st (l_X8_far_0_71_s _ _ _ _ _ _ _) hF
                have r_x48 := kw_rng x48
                refine kw_iload (pc := 71) (i := 39) (k := 0) (n := 5) rfl rfl ?_
                refine kw_bipush (pc := 73) (i := 40) (v := 40) rfl rfl ?_
                refine kw_icmp_ge (pc := 75) (i := 41) (tgt := 108) rfl rfl (fun c57 => ?_) (fun c57 => ?_)
                · replace hF := kf_nl c57 hF
                  refine kw_aload_n (pc := 108) (i := 57) (k := 2) (n := 0) rfl rfl rfl ?_
                  refine kw_iload (pc := 109) (i := 58) (k := 1) (n := 4) rfl rfl ?_
                  refine kw_iconst (pc := 111) (i := 59) (v := 1) rfl rfl ?_
                  refine kw_callV (pc := 112) (i := 60) (Y := mX8_ask) (a := 0) (As := [.int z40, .int 1]) (st := []) kw_hE rfl rfl lvX8_119 arX8_ask (c_X8_ask_0 l T hT0 hT1 S49 I50 z40 1 ) (by decide) (Nat.le_of_ble_eq_true rfl) rfl (fun v S59 p58 => ?_)
                  obtain ⟨⟨I63, F64⟩, z62, rfl, f60, ef61⟩ := p58
                  have F65 : kw_FM [2, 3, 18, 19, 20, 1002] σ S59 := kw_FM.tr F51 F64 (by decide)
                  have w_66 : (S59.1 0 27).toInt = (S49.1 0 27).toInt := congrArg Int32.toInt (kw_FM.at0 (j := 27) F64 (by decide))
                  replace hF := kf_be ef61 hF
                  have r_z62 := kw_rng z62
                  show kw_AW l 5 kw_E0 KM mX8_far (p_X8_far_0 T σ n t a) 115 [(5, .int x48), (4, .int z40), (0, .ref 0), (1, .int n), (2, .int t), (3, .int a)] [.int z62] S59
                  exact kw_ireturn (pc := 115) (i := 61) (ty := .int) rfl rfl rfl ⟨⟨I63, F65⟩, _, rfl, hF⟩
                · replace hF := kf_p c57 hF
                  refine kw_aload_n (pc := 78) (i := 42) (k := 2) (n := 0) rfl rfl rfl ?_
                  refine kw_iload_n (pc := 79) (i := 43) (k := 5) (n := 3) rfl rfl rfl ?_
                  refine kw_iload (pc := 80) (i := 44) (k := 0) (n := 5) rfl rfl ?_
                  refine kw_iload (pc := 82) (i := 45) (k := 0) (n := 5) rfl rfl ?_
                  refine kw_iload_n (pc := 84) (i := 46) (k := 3) (n := 1) rfl rfl rfl ?_
                  refine kw_icmp_ge (pc := 85) (i := 47) (tgt := 98) rfl rfl (fun c67 => ?_) (fun c67 => ?_)
                  · replace hF := kf_nl c67 hF
                    refine kw_iconst (pc := 98) (i := 53) (v := 0) rfl rfl ?_
                    refine kw_callV (pc := 99) (i := 54) (Y := mX8_setRow) (a := 0) (As := [.int a, .int x48, .int 0]) (st := []) kw_hE rfl rfl lvX8_108 arX8_setRow (c_X8_setRow_0 l T hT0 hT1 S49 I50 a x48 0 (by first | omega | decide) (by first | omega | decide) (by first | omega | decide) (by first | omega | decide)) (by decide) (Nat.le_of_ble_eq_true rfl) rfl (fun v S69 p68 => ?_)
                    obtain ⟨⟨I71, F72⟩, rfl, ef70⟩ := p68
                    have F73 : kw_FM [2, 3, 18, 19, 20, 1002] σ S69 := kw_FM.tr F51 F72 (by decide)
                    have w_74 : (S69.1 0 27).toInt = (S49.1 0 27).toInt := congrArg Int32.toInt (kw_FM.at0 (j := 27) F72 (by decide))
                    replace hF := kf_le ef70 hF
                    show kw_AW l 5 kw_E0 KM mX8_far (p_X8_far_0 T σ n t a) 102 [(5, .int x48), (4, .int z40), (0, .ref 0), (1, .int n), (2, .int t), (3, .int a)] [] S69
                    refine kw_iinc' (pc := 102) (i := 55) (k := 0) (fun z => [(5, .int z), (4, .int z40), (0, .ref 0), (1, .int n), (2, .int t), (3, .int a)]) rfl rfl (by decide) rfl (fun _ => rfl) (fun z75 e_z75 t_z75 => ?_)
                    replace hF := kf_le e_z75 hF
                    first | (have u_z75 : z75.toInt = x48.toInt + 1 := (by omega); clear t_z75) | skip
                    refine kw_goto (pc := 105) (i := 56) (tgt := 71) rfl rfl ?_
                    refine kw_sub (lv' := [(5, .int z75), (4, .int z40), (0, .ref 0), (1, .int n), (2, .int t), (3, .int a)]) [0, 1, 2, 3, 4, 5] rfl ?_
                    exact ih53 z75 S69 I71 F73 (by omega) hF (by omega)
                  · replace hF := kf_p c67 hF
                    refine kw_aload_n (pc := 88) (i := 48) (k := 2) (n := 0) rfl rfl rfl ?_
                    refine kw_get (pc := 89) (i := 49) (v := .ref 20) rfl rfl rfl lkX8_75 (fun _ => rfl) ?_
                    refine kw_iload (pc := 92) (i := 50) (k := 0) (n := 5) rfl rfl ?_
                    refine kw_iald (pc := 94) (i := 51) (n := 3) rfl rfl (by omega) (by omega) (fun z76 e_z76 => ?_)
                    replace hF := kf_le e_z76 hF
                    have t_z76 := congrArg Int32.toInt e_z76
                    have r_z76 := kw_rng z76
                    refine kw_goto (pc := 95) (i := 52) (tgt := 99) rfl rfl ?_
                    refine kw_callV (pc := 99) (i := 54) (Y := mX8_setRow) (a := 0) (As := [.int a, .int x48, .int z76]) (st := []) kw_hE rfl rfl lvX8_108 arX8_setRow (c_X8_setRow_0 l T hT0 hT1 S49 I50 a x48 z76 (by first | omega | decide) (by first | omega | decide) (by first | omega | decide) (by first | omega | decide)) (by decide) (Nat.le_of_ble_eq_true rfl) rfl (fun v S78 p77 => ?_)
                    obtain ⟨⟨I80, F81⟩, rfl, ef79⟩ := p77
                    have F82 : kw_FM [2, 3, 18, 19, 20, 1002] σ S78 := kw_FM.tr F51 F81 (by decide)
                    have w_83 : (S78.1 0 27).toInt = (S49.1 0 27).toInt := congrArg Int32.toInt (kw_FM.at0 (j := 27) F81 (by decide))
                    replace hF := kf_le ef79 hF
                    show kw_AW l 5 kw_E0 KM mX8_far (p_X8_far_0 T σ n t a) 102 [(5, .int x48), (4, .int z40), (0, .ref 0), (1, .int n), (2, .int t), (3, .int a)] [] S78
                    refine kw_iinc' (pc := 102) (i := 55) (k := 0) (fun z => [(5, .int z), (4, .int z40), (0, .ref 0), (1, .int n), (2, .int t), (3, .int a)]) rfl rfl (by decide) rfl (fun _ => rfl) (fun z84 e_z84 t_z84 => ?_)
                    replace hF := kf_le e_z84 hF
                    first | (have u_z84 : z84.toInt = x48.toInt + 1 := (by omega); clear t_z84) | skip
                    refine kw_goto (pc := 105) (i := 56) (tgt := 71) rfl rfl ?_
                    refine kw_sub (lv' := [(5, .int z84), (4, .int z40), (0, .ref 0), (1, .int n), (2, .int t), (3, .int a)]) [0, 1, 2, 3, 4, 5] rfl ?_
                    exact ih53 z84 S78 I80 F82 (by omega) hF (by omega)
            exact L52 _ 0 (kw_ui S38 2 a.toNatClampNeg n) I46 F47 (by omega) hF (Nat.lt_succ_self _)
          · replace hF := kf_p c45 hF
            refine kw_bipush (pc := 58) (i := 30) (v := (-9)) rfl rfl ?_
            exact kw_ireturn (pc := 60) (i := 31) (ty := .int) rfl rfl rfl ⟨⟨I41, F43⟩, _, rfl, hF⟩
        · replace hF := kf_p c29 hF
          refine kw_bipush (pc := 36) (i := 18) (v := (-4)) rfl rfl ?_
          exact kw_ireturn (pc := 38) (i := 19) (ty := .int) rfl rfl rfl ⟨⟨hI, hF0⟩, _, rfl, hF⟩
      · replace hF := kf_p c27 hF
        refine kw_iconst (pc := 27) (i := 13) (v := (-1)) rfl rfl ?_
        exact kw_ireturn (pc := 28) (i := 14) (ty := .int) rfl rfl rfl ⟨⟨hI, hF0⟩, _, rfl, hF⟩
noncomputable def l_X8_rival_0_199 (k66 : Int32 → kw_S → Int32 × kw_S) (a1 : Int32) (a2 : Int32) (a3 : Int32) : Nat → Int32 → kw_S → Int32 × kw_S
  | 0, _, S => (0, S)
  | n + 1, x5, S => kf_l ((1 : Int32) <<< ((S.1 0 10) &&& 31)) fun z11 => if x5.toInt < z11.toInt then (kf_l (S.1 22 x5.toNatClampNeg) fun z13 => kf_l (x5 + Int32.ofInt 1) fun z14 => l_X8_rival_0_199 k66 a1 a2 a3 n z14 (kw_ui S 21 x5.toNatClampNeg z13)) else (kf_l (a3 + Int32.ofInt (-1)) fun z12 => k66 z12 S)
theorem l_X8_rival_0_199_s (k66 : Int32 → kw_S → Int32 × kw_S) (a1 : Int32) (a2 : Int32) (a3 : Int32) (n : Nat) (x5 : Int32) (S : kw_S) : l_X8_rival_0_199 k66 a1 a2 a3 (n + 1) x5 S = kf_l ((1 : Int32) <<< ((S.1 0 10) &&& 31)) fun z11 => if x5.toInt < z11.toInt then (kf_l (S.1 22 x5.toNatClampNeg) fun z13 => kf_l (x5 + Int32.ofInt 1) fun z14 => l_X8_rival_0_199 k66 a1 a2 a3 n z14 (kw_ui S 21 x5.toNatClampNeg z13)) else (kf_l (a3 + Int32.ofInt (-1)) fun z12 => k66 z12 S) := rfl
noncomputable def l_X8_rival_0_109 (k66 : Int32 → kw_S → Int32 × kw_S) (k86 : Int32 → kw_S → Int32 × kw_S) (a1 : Int32) (a2 : Int32) (a3 : Int32) (a5 : Int32) (S : kw_S) : Nat → Int32 → Int32 → Int32 × kw_S
  | 0, _, _ => (0, S)
  | n + 1, x6, x7 => if x7.toInt < (S.1 0 10).toInt then (kf_l (f_X8_has S a5 x7) fun z17 => if z17.toInt = (0 : Int32).toInt then (kf_l (x7 + Int32.ofInt 1) fun z18 => l_X8_rival_0_109 k66 k86 a1 a2 a3 a5 S n x6 z18) else (kf_l ((1 : Int32) <<< (x7 &&& 31)) fun z19 => kf_l (a5 ^^^ z19) fun z20 => kf_l (S.1 21 z20.toNatClampNeg) fun z21 => if (0 : Int32).toInt = 0 then (if z21.toInt < x6.toInt then (kf_l (x7 + Int32.ofInt 1) fun z23 => l_X8_rival_0_109 k66 k86 a1 a2 a3 a5 S n z21 z23) else (kf_l (x7 + Int32.ofInt 1) fun z22 => l_X8_rival_0_109 k66 k86 a1 a2 a3 a5 S n x6 z22)) else ((0, S)))) else (kf_l (a5 + Int32.ofInt 1) fun z16 => k86 z16 (kw_ui S 22 a5.toNatClampNeg x6))
theorem l_X8_rival_0_109_s (k66 : Int32 → kw_S → Int32 × kw_S) (k86 : Int32 → kw_S → Int32 × kw_S) (a1 : Int32) (a2 : Int32) (a3 : Int32) (a5 : Int32) (S : kw_S) (n : Nat) (x6 : Int32) (x7 : Int32) : l_X8_rival_0_109 k66 k86 a1 a2 a3 a5 S (n + 1) x6 x7 = if x7.toInt < (S.1 0 10).toInt then (kf_l (f_X8_has S a5 x7) fun z17 => if z17.toInt = (0 : Int32).toInt then (kf_l (x7 + Int32.ofInt 1) fun z18 => l_X8_rival_0_109 k66 k86 a1 a2 a3 a5 S n x6 z18) else (kf_l ((1 : Int32) <<< (x7 &&& 31)) fun z19 => kf_l (a5 ^^^ z19) fun z20 => kf_l (S.1 21 z20.toNatClampNeg) fun z21 => if (0 : Int32).toInt = 0 then (if z21.toInt < x6.toInt then (kf_l (x7 + Int32.ofInt 1) fun z23 => l_X8_rival_0_109 k66 k86 a1 a2 a3 a5 S n z21 z23) else (kf_l (x7 + Int32.ofInt 1) fun z22 => l_X8_rival_0_109 k66 k86 a1 a2 a3 a5 S n x6 z22)) else ((0, S)))) else (kf_l (a5 + Int32.ofInt 1) fun z16 => k86 z16 (kw_ui S 22 a5.toNatClampNeg x6)) := rfl
noncomputable def l_X8_rival_0_86 (k66 : Int32 → kw_S → Int32 × kw_S) (a1 : Int32) (a2 : Int32) (a3 : Int32) : Nat → Int32 → kw_S → Int32 × kw_S
  | 0, _, S => (0, S)
  | n + 1, x5, S => kf_l ((1 : Int32) <<< ((S.1 0 10) &&& 31)) fun z10 => if x5.toInt < z10.toInt then (kf_l (S.1 21 x5.toNatClampNeg) fun z15 => l_X8_rival_0_109 k66 (l_X8_rival_0_86 k66 a1 a2 a3 n) a1 a2 a3 x5 S ((7 - (0 : Int32).toInt).toNat + 1) z15 (0 : Int32)) else (l_X8_rival_0_199 k66 a1 a2 a3 ((65 - (0 : Int32).toInt).toNat + 1) (0 : Int32) S)
theorem l_X8_rival_0_86_s (k66 : Int32 → kw_S → Int32 × kw_S) (a1 : Int32) (a2 : Int32) (a3 : Int32) (n : Nat) (x5 : Int32) (S : kw_S) : l_X8_rival_0_86 k66 a1 a2 a3 (n + 1) x5 S = kf_l ((1 : Int32) <<< ((S.1 0 10) &&& 31)) fun z10 => if x5.toInt < z10.toInt then (kf_l (S.1 21 x5.toNatClampNeg) fun z15 => l_X8_rival_0_109 k66 (l_X8_rival_0_86 k66 a1 a2 a3 n) a1 a2 a3 x5 S ((7 - (0 : Int32).toInt).toNat + 1) z15 (0 : Int32)) else (l_X8_rival_0_199 k66 a1 a2 a3 ((65 - (0 : Int32).toInt).toNat + 1) (0 : Int32) S) := rfl
noncomputable def l_X8_rival_0_199a (k66 : Int32 → kw_S → Int32 × kw_S) (a1 : Int32) (a2 : Int32) (a3 : Int32) : Nat → Int32 → kw_S → Int32 × kw_S
  | 0, _, S => (0, S)
  | n + 1, x5, S => kf_l ((1 : Int32) <<< ((S.1 0 10) &&& 31)) fun z25 => if x5.toInt < z25.toInt then (kf_l (S.1 22 x5.toNatClampNeg) fun z27 => kf_l (x5 + Int32.ofInt 1) fun z28 => l_X8_rival_0_199a k66 a1 a2 a3 n z28 (kw_ui S 21 x5.toNatClampNeg z27)) else (kf_l (a3 + Int32.ofInt (-1)) fun z26 => k66 z26 S)
theorem l_X8_rival_0_199a_s (k66 : Int32 → kw_S → Int32 × kw_S) (a1 : Int32) (a2 : Int32) (a3 : Int32) (n : Nat) (x5 : Int32) (S : kw_S) : l_X8_rival_0_199a k66 a1 a2 a3 (n + 1) x5 S = kf_l ((1 : Int32) <<< ((S.1 0 10) &&& 31)) fun z25 => if x5.toInt < z25.toInt then (kf_l (S.1 22 x5.toNatClampNeg) fun z27 => kf_l (x5 + Int32.ofInt 1) fun z28 => l_X8_rival_0_199a k66 a1 a2 a3 n z28 (kw_ui S 21 x5.toNatClampNeg z27)) else (kf_l (a3 + Int32.ofInt (-1)) fun z26 => k66 z26 S) := rfl
noncomputable def l_X8_rival_0_109a (k66 : Int32 → kw_S → Int32 × kw_S) (k86 : Int32 → kw_S → Int32 × kw_S) (a1 : Int32) (a2 : Int32) (a3 : Int32) (a5 : Int32) (S : kw_S) : Nat → Int32 → Int32 → Int32 × kw_S
  | 0, _, _ => (0, S)
  | n + 1, x6, x7 => if x7.toInt < (S.1 0 10).toInt then (kf_l (f_X8_has S a5 x7) fun z31 => if z31.toInt = (1 : Int32).toInt then (kf_l (x7 + Int32.ofInt 1) fun z32 => l_X8_rival_0_109a k66 k86 a1 a2 a3 a5 S n x6 z32) else (kf_l ((1 : Int32) <<< (x7 &&& 31)) fun z33 => kf_l (a5 ^^^ z33) fun z34 => kf_l (S.1 21 z34.toNatClampNeg) fun z35 => if (1 : Int32).toInt = 0 then ((0, S)) else (kf_l (f_X8_greater S x6 z35) fun z36 => kf_l (x7 + Int32.ofInt 1) fun z37 => l_X8_rival_0_109a k66 k86 a1 a2 a3 a5 S n z36 z37))) else (kf_l (a5 + Int32.ofInt 1) fun z30 => k86 z30 (kw_ui S 22 a5.toNatClampNeg x6))
theorem l_X8_rival_0_109a_s (k66 : Int32 → kw_S → Int32 × kw_S) (k86 : Int32 → kw_S → Int32 × kw_S) (a1 : Int32) (a2 : Int32) (a3 : Int32) (a5 : Int32) (S : kw_S) (n : Nat) (x6 : Int32) (x7 : Int32) : l_X8_rival_0_109a k66 k86 a1 a2 a3 a5 S (n + 1) x6 x7 = if x7.toInt < (S.1 0 10).toInt then (kf_l (f_X8_has S a5 x7) fun z31 => if z31.toInt = (1 : Int32).toInt then (kf_l (x7 + Int32.ofInt 1) fun z32 => l_X8_rival_0_109a k66 k86 a1 a2 a3 a5 S n x6 z32) else (kf_l ((1 : Int32) <<< (x7 &&& 31)) fun z33 => kf_l (a5 ^^^ z33) fun z34 => kf_l (S.1 21 z34.toNatClampNeg) fun z35 => if (1 : Int32).toInt = 0 then ((0, S)) else (kf_l (f_X8_greater S x6 z35) fun z36 => kf_l (x7 + Int32.ofInt 1) fun z37 => l_X8_rival_0_109a k66 k86 a1 a2 a3 a5 S n z36 z37))) else (kf_l (a5 + Int32.ofInt 1) fun z30 => k86 z30 (kw_ui S 22 a5.toNatClampNeg x6)) := rfl
noncomputable def l_X8_rival_0_86a (k66 : Int32 → kw_S → Int32 × kw_S) (a1 : Int32) (a2 : Int32) (a3 : Int32) : Nat → Int32 → kw_S → Int32 × kw_S
  | 0, _, S => (0, S)
  | n + 1, x5, S => kf_l ((1 : Int32) <<< ((S.1 0 10) &&& 31)) fun z24 => if x5.toInt < z24.toInt then (kf_l (S.1 21 x5.toNatClampNeg) fun z29 => l_X8_rival_0_109a k66 (l_X8_rival_0_86a k66 a1 a2 a3 n) a1 a2 a3 x5 S ((7 - (0 : Int32).toInt).toNat + 1) z29 (0 : Int32)) else (l_X8_rival_0_199a k66 a1 a2 a3 ((65 - (0 : Int32).toInt).toNat + 1) (0 : Int32) S)
theorem l_X8_rival_0_86a_s (k66 : Int32 → kw_S → Int32 × kw_S) (a1 : Int32) (a2 : Int32) (a3 : Int32) (n : Nat) (x5 : Int32) (S : kw_S) : l_X8_rival_0_86a k66 a1 a2 a3 (n + 1) x5 S = kf_l ((1 : Int32) <<< ((S.1 0 10) &&& 31)) fun z24 => if x5.toInt < z24.toInt then (kf_l (S.1 21 x5.toNatClampNeg) fun z29 => l_X8_rival_0_109a k66 (l_X8_rival_0_86a k66 a1 a2 a3 n) a1 a2 a3 x5 S ((7 - (0 : Int32).toInt).toNat + 1) z29 (0 : Int32)) else (l_X8_rival_0_199a k66 a1 a2 a3 ((65 - (0 : Int32).toInt).toNat + 1) (0 : Int32) S) := rfl
noncomputable def l_X8_rival_0_66 (a1 : Int32) (a2 : Int32) : Nat → Int32 → kw_S → Int32 × kw_S
  | 0, _, S => (0, S)
  | n + 1, x3, S => if x3.toInt < 0 then (kf_l (S.1 21 (S.1 0 25).toNatClampNeg) fun z6 => kf_b (f_X8_ask_0 S z6 (1 : Int32)) fun z7 S8 => (z7, S8)) else (kf_l (x3 - x3 / (2 : Int32) * (2 : Int32)) fun z9 => if z9.toInt = 0 then (l_X8_rival_0_86a (l_X8_rival_0_66 a1 a2 n) a1 a2 x3 ((65 - (0 : Int32).toInt).toNat + 1) (0 : Int32) S) else (l_X8_rival_0_86 (l_X8_rival_0_66 a1 a2 n) a1 a2 x3 ((65 - (0 : Int32).toInt).toNat + 1) (0 : Int32) S))
theorem l_X8_rival_0_66_s (a1 : Int32) (a2 : Int32) (n : Nat) (x3 : Int32) (S : kw_S) : l_X8_rival_0_66 a1 a2 (n + 1) x3 S = if x3.toInt < 0 then (kf_l (S.1 21 (S.1 0 25).toNatClampNeg) fun z6 => kf_b (f_X8_ask_0 S z6 (1 : Int32)) fun z7 S8 => (z7, S8)) else (kf_l (x3 - x3 / (2 : Int32) * (2 : Int32)) fun z9 => if z9.toInt = 0 then (l_X8_rival_0_86a (l_X8_rival_0_66 a1 a2 n) a1 a2 x3 ((65 - (0 : Int32).toInt).toNat + 1) (0 : Int32) S) else (l_X8_rival_0_86 (l_X8_rival_0_66 a1 a2 n) a1 a2 x3 ((65 - (0 : Int32).toInt).toNat + 1) (0 : Int32) S)) := rfl
noncomputable def l_X8_rival_0_32 (a1 : Int32) (a2 : Int32) : Nat → Int32 → kw_S → Int32 × kw_S
  | 0, _, S => (0, S)
  | n + 1, x3, S => kf_l ((1 : Int32) <<< ((S.1 0 10) &&& 31)) fun z3 => if x3.toInt < z3.toInt then (kf_l (f_X8_milesBy_0 S x3 a2) fun z38 => kf_l (x3 + Int32.ofInt 1) fun z39 => l_X8_rival_0_32 a1 a2 n z39 (kw_ui S 21 x3.toNatClampNeg z38)) else (kf_l ((2 : Int32) * a1) fun z4 => kf_l (z4 - (1 : Int32)) fun z5 => l_X8_rival_0_66 a1 a2 ((z5.toInt + 2).toNat + 1) z5 S)
theorem l_X8_rival_0_32_s (a1 : Int32) (a2 : Int32) (n : Nat) (x3 : Int32) (S : kw_S) : l_X8_rival_0_32 a1 a2 (n + 1) x3 S = kf_l ((1 : Int32) <<< ((S.1 0 10) &&& 31)) fun z3 => if x3.toInt < z3.toInt then (kf_l (f_X8_milesBy_0 S x3 a2) fun z38 => kf_l (x3 + Int32.ofInt 1) fun z39 => l_X8_rival_0_32 a1 a2 n z39 (kw_ui S 21 x3.toNatClampNeg z38)) else (kf_l ((2 : Int32) * a1) fun z4 => kf_l (z4 - (1 : Int32)) fun z5 => l_X8_rival_0_66 a1 a2 ((z5.toInt + 2).toNat + 1) z5 S) := rfl
noncomputable def f_X8_rival_0 (σ : kw_S) (n : Int32) : Int32 × kw_S := kf_l (f_X8_in σ n (0 : Int32) (2 : Int32)) fun z1 => if z1.toInt = 0 then ((((-1) : Int32), σ)) else (if (σ.1 0 10).toInt = 0 then ((((-4) : Int32), σ)) else (kf_l (f_X8_windAt_0 σ (σ.1 0 22)) fun z2 => l_X8_rival_0_32 n z2 ((65 - (0 : Int32).toInt).toNat + 1) (0 : Int32) σ))
theorem f_X8_rival_0_u (σ : kw_S) (n : Int32) : f_X8_rival_0 σ n = kf_l (f_X8_in σ n (0 : Int32) (2 : Int32)) fun z1 => if z1.toInt = 0 then ((((-1) : Int32), σ)) else (if (σ.1 0 10).toInt = 0 then ((((-4) : Int32), σ)) else (kf_l (f_X8_windAt_0 σ (σ.1 0 22)) fun z2 => l_X8_rival_0_32 n z2 ((65 - (0 : Int32).toInt).toNat + 1) (0 : Int32) σ)) := rfl
abbrev p_X8_rival_0 (T : Int) (σ : kw_S) (n : Int32) : Option Value → kw_S → Prop := fun vv σ' => (kw_I (bM T) σ' ∧ kw_FM [21, 22, 1002] σ σ') ∧ ∃ r : Int32, vv = some (.int r) ∧ ((n.toInt < 0 ∨ 2 < n.toInt) ∧ r.toInt = -1 ∨ 0 ≤ n.toInt ∧ n.toInt ≤ 2 ∧ (σ.1 0 10).toInt = 0 ∧ r.toInt = -4 ∨ 0 ≤ n.toInt ∧ n.toInt ≤ 2 ∧ (σ.1 0 10).toInt ≠ 0 ∧ r.toInt = 1) ∧ (r, σ') = f_X8_rival_0 σ n
set_option maxRecDepth 100000 in
set_option maxHeartbeats 4000000 in
theorem c_X8_rival_0 (l : Launch) (T : Int) (hT0 : 0 ≤ T) (hT1 : T ≤ 3000) (σ : kw_S) (hI : kw_I (bM T) σ) (n : Int32) : kw_Met l 4 KM mX8_rival [.ref 0, .int n] σ (p_X8_rival_0 T σ n) := by
  have r_n := kw_rng n
  have hF0 : kw_FM [21, 22, 1002] σ σ := kw_FM.rf
  have hF := (f_X8_rival_0_u σ n).symm
  have q_m4 : (-4 : Int32).toInt = -4 := rfl
  have q_m1 : (-1 : Int32).toInt = -1 := rfl
  have q_0 : (0 : Int32).toInt = 0 := rfl
  have q_1 : (1 : Int32).toInt = 1 := rfl
  have q_2 : (2 : Int32).toInt = 2 := rfl
  refine kw_Met.of (by decide) rfl tX8_rival (Nat.le_of_ble_eq_true rfl) ?_
  show kw_AW l 4 kw_E0 KM mX8_rival (p_X8_rival_0 T σ n) 0 [(0, .ref 0), (1, .int n)] [] σ
  refine kw_iload_n (pc := 0) (i := 0) (k := 1) (n := 1) rfl rfl rfl ?_
  refine kw_iconst (pc := 1) (i := 1) (v := 0) rfl rfl ?_
  refine kw_iconst (pc := 2) (i := 2) (v := 2) rfl rfl ?_
  refine kw_callS (pc := 3) (i := 3) (Y := mX8_in) (As := [.int n, .int 0, .int 2]) (st := []) kw_hE rfl lsX8_93 arX8_in (c_X8_in l T hT0 hT1 σ hI n 0 2 ) (by decide) (Nat.le_of_ble_eq_true rfl) rfl (fun v S2 p1 => ?_)
  obtain ⟨e8, z7, rfl, f3, f4, f5, ef6⟩ := p1
  rw [e8]
  replace hF := kf_le ef6 hF
  have r_z7 := kw_rng z7
  show kw_AW l 4 kw_E0 KM mX8_rival (p_X8_rival_0 T σ n) 6 [(0, .ref 0), (1, .int n)] [.int z7] σ
  refine kw_if_ne (pc := 6) (i := 4) (tgt := 11) rfl rfl (fun c9 => ?_) (fun c9 => ?_)
  · replace hF := kf_n c9 hF
    refine kw_aload_n (pc := 11) (i := 7) (k := 0) (n := 0) rfl rfl rfl ?_
    refine kw_get (pc := 12) (i := 8) (v := .int (σ.1 0 10)) rfl rfl rfl lkX8_163 (fun _ => rfl) ?_
    have b10 : 0 ≤ (σ.1 0 10).toInt ∧ (σ.1 0 10).toInt ≤ 6 := hI 0 10
    refine kw_if_ne (pc := 15) (i := 9) (tgt := 21) rfl rfl (fun c11 => ?_) (fun c11 => ?_)
    · replace hF := kf_n c11 hF
      refine kw_aload_n (pc := 21) (i := 12) (k := 0) (n := 0) rfl rfl rfl ?_
      refine kw_aload_n (pc := 22) (i := 13) (k := 0) (n := 0) rfl rfl rfl ?_
      refine kw_get (pc := 23) (i := 14) (v := .int (σ.1 0 22)) rfl rfl rfl lkX8_166 (fun _ => rfl) ?_
      have b12 : 0 ≤ (σ.1 0 22).toInt ∧ (σ.1 0 22).toInt ≤ T := hI 0 22
      refine kw_callV (pc := 26) (i := 15) (Y := mX8_windAt) (a := 0) (As := [.int (σ.1 0 22)]) (st := []) kw_hE rfl rfl lvX8_196 arX8_windAt (c_X8_windAt_0 l T hT0 hT1 σ hI (σ.1 0 22) (by first | omega | decide)) (by decide) (Nat.le_of_ble_eq_true rfl) rfl (fun v S14 p13 => ?_)
      obtain ⟨e17, z16, rfl, ef15⟩ := p13
      rw [e17]
      replace hF := kf_le ef15 hF
      have r_z16 := kw_rng z16
      show kw_AW l 4 kw_E0 KM mX8_rival (p_X8_rival_0 T σ n) 29 [(0, .ref 0), (1, .int n)] [.int z16] σ
      refine kw_istore_n (pc := 29) (i := 16) (n := 2) (lv' := [(2, .int z16), (0, .ref 0), (1, .int n)]) rfl rfl (by decide) rfl ?_
      refine kw_iconst (pc := 30) (i := 17) (v := 0) rfl rfl ?_
      refine kw_istore_n (pc := 31) (i := 18) (n := 3) (lv' := [(3, .int 0), (2, .int z16), (0, .ref 0), (1, .int n)]) rfl rfl (by decide) rfl ?_
      have L22 : ∀ (n26 : Nat) (x18 : Int32) (S19 : kw_S), kw_I (bM T) S19 → kw_FM [21, 22, 1002] σ S19 → 0 ≤ x18.toInt → l_X8_rival_0_32 n z16 n26 x18 S19 = (f_X8_rival_0 σ n) → (65 - x18.toInt).toNat < n26 → kw_AW l 4 kw_E0 KM mX8_rival (p_X8_rival_0 T σ n) 32 [(3, .int x18), (2, .int z16), (0, .ref 0), (1, .int n)] [] S19 := by
        intro n26
        induction n26 with
        | zero => intro x18 S19 I20 F21 v24 hF m25; exact absurd m25 (Nat.not_lt_zero _)
        | succ n26 ih23 =>
          intro x18 S19 I20 F21 v24 hF m25
          replace hF := kf_st (l_X8_rival_0_32_s _ _ _ _ _) hF
          have r_x18 := kw_rng x18
          refine kw_iload_n (pc := 32) (i := 19) (k := 0) (n := 3) rfl rfl rfl ?_
          refine kw_iconst (pc := 33) (i := 20) (v := 1) rfl rfl ?_
          refine kw_aload_n (pc := 34) (i := 21) (k := 2) (n := 0) rfl rfl rfl ?_
          refine kw_get (pc := 35) (i := 22) (v := .int (S19.1 0 10)) rfl rfl rfl lkX8_163 (fun _ => rfl) ?_
          have b27 : 0 ≤ (S19.1 0 10).toInt ∧ (S19.1 0 10).toInt ≤ 6 := I20 0 10
          refine kw_ishl (pc := 38) (i := 23) rfl (fun z28 e_z28 => ?_)
          have r_z28 := kw_rng z28
          replace hF := kf_le e_z28 hF
          have t_z28 := kw_shlm (S19.1 0 10) z28 e_z28
          first | (replace t_z28 := And.intro (t_z28.1 (by omega) (by omega)) (t_z28.2 (by omega) (by omega))) | (replace t_z28 := t_z28.1 (by omega) (by omega)) | skip
          have u_z28 := congrArg Int32.toInt e_z28
          refine kw_icmp_ge (pc := 39) (i := 24) (tgt := 60) rfl rfl (fun c29 => ?_) (fun c29 => ?_)
          · replace hF := kf_nl c29 hF
            refine kw_iconst (pc := 60) (i := 35) (v := 2) rfl rfl ?_
            refine kw_iload_n (pc := 61) (i := 36) (k := 3) (n := 1) rfl rfl rfl ?_
            refine kw_imul (pc := 62) (i := 37) rfl (fun z30 e_z30 t_z30 => ?_)
            replace hF := kf_le e_z30 hF
            rw [show (2 : Int32).toInt = 2 from rfl] at t_z30
            first | (have u_z30 : z30.toInt = 2 * n.toInt := (by omega); clear t_z30) | skip
            refine kw_iconst (pc := 63) (i := 38) (v := 1) rfl rfl ?_
            refine kw_isub (pc := 64) (i := 39) rfl (fun z31 e_z31 t_z31 => ?_)
            replace hF := kf_le e_z31 hF
            first | (have u_z31 : z31.toInt = z30.toInt - 1 := (by omega); clear t_z31) | skip
            refine kw_istore_n (pc := 65) (i := 40) (n := 3) (lv' := [(3, .int z31), (2, .int z16), (0, .ref 0), (1, .int n)]) rfl rfl (by decide) rfl ?_
            have L36 : ∀ (n41 : Nat) (x32 : Int32) (S33 : kw_S), kw_I (bM T) S33 → kw_FM [21, 22, 1002] σ S33 → -1 ≤ x32.toInt → x32.toInt ≤ 3 → l_X8_rival_0_66 n z16 n41 x32 S33 = (f_X8_rival_0 σ n) → (x32.toInt + 2).toNat < n41 → kw_AW l 4 kw_E0 KM mX8_rival (p_X8_rival_0 T σ n) 66 [(3, .int x32), (2, .int z16), (0, .ref 0), (1, .int n)] [] S33 := by
              intro n41
              induction n41 with
              | zero => intro x32 S33 I34 F35 v38 v39 hF m40; exact absurd m40 (Nat.not_lt_zero _)
              | succ n41 ih37 =>
                intro x32 S33 I34 F35 v38 v39 hF m40
                replace hF := kf_st (l_X8_rival_0_66_s _ _ _ _ _) hF
                have r_x32 := kw_rng x32
                refine kw_iload_n (pc := 66) (i := 41) (k := 0) (n := 3) rfl rfl rfl ?_
                refine kw_if_lt (pc := 67) (i := 42) (tgt := 236) rfl rfl (fun c42 => ?_) (fun c42 => ?_)
                · replace hF := kf_p c42 hF
                  refine kw_aload_n (pc := 236) (i := 126) (k := 2) (n := 0) rfl rfl rfl ?_
                  refine kw_aload_n (pc := 237) (i := 127) (k := 2) (n := 0) rfl rfl rfl ?_
                  refine kw_get (pc := 238) (i := 128) (v := .ref 21) rfl rfl rfl lkX8_78 (fun _ => rfl) ?_
                  refine kw_aload_n (pc := 241) (i := 129) (k := 2) (n := 0) rfl rfl rfl ?_
                  refine kw_get (pc := 242) (i := 130) (v := .int (S33.1 0 25)) rfl rfl rfl lkX8_175 (fun _ => rfl) ?_
                  have b43 : 0 ≤ (S33.1 0 25).toInt ∧ (S33.1 0 25).toInt ≤ 63 := I34 0 25
                  refine kw_iald (pc := 245) (i := 131) (n := 64) rfl rfl (by omega) (by omega) (fun z44 e_z44 => ?_)
                  replace hF := kf_le e_z44 hF
                  have t_z44 := congrArg Int32.toInt e_z44
                  have r_z44 := kw_rng z44
                  refine kw_iconst (pc := 246) (i := 132) (v := 1) rfl rfl ?_
                  refine kw_callV (pc := 247) (i := 133) (Y := mX8_ask) (a := 0) (As := [.int z44, .int 1]) (st := []) kw_hE rfl rfl lvX8_119 arX8_ask (c_X8_ask_0 l T hT0 hT1 S33 I34 z44 1 ) (by decide) (Nat.le_of_ble_eq_true rfl) rfl (fun v S46 p45 => ?_)
                  obtain ⟨⟨I50, F51⟩, z49, rfl, f47, ef48⟩ := p45
                  have F52 : kw_FM [21, 22, 1002] σ S46 := kw_FM.tr F35 F51 (by decide)
                  have w_53 : (S46.1 0 27).toInt = (S33.1 0 27).toInt := congrArg Int32.toInt (kw_FM.at0 (j := 27) F51 (by decide))
                  replace hF := kf_be ef48 hF
                  have r_z49 := kw_rng z49
                  show kw_AW l 4 kw_E0 KM mX8_rival (p_X8_rival_0 T σ n) 250 [(3, .int x32), (2, .int z16), (0, .ref 0), (1, .int n)] [.int z49] S46
                  exact kw_ireturn (pc := 250) (i := 134) (ty := .int) rfl rfl rfl ⟨⟨I50, F52⟩, _, rfl, by omega, hF⟩
                · replace hF := kf_nl c42 hF
                  refine kw_iload_n (pc := 70) (i := 43) (k := 0) (n := 3) rfl rfl rfl ?_
                  refine kw_iconst (pc := 71) (i := 44) (v := 2) rfl rfl ?_
                  refine kw_irem (pc := 72) (i := 45) rfl (by omega) (fun z54 e_z54 => ?_)
                  have r_z54 := kw_rng z54
                  replace hF := kf_le e_z54 hF
                  have t_z54 := kw_remI x32 2 z54 e_z54
                  refine kw_if_ne (pc := 73) (i := 46) (tgt := 80) rfl rfl (fun c55 => ?_) (fun c55 => ?_)
                  · replace hF := kf_n c55 hF
                    refine kw_iconst (pc := 80) (i := 49) (v := 0) rfl rfl ?_
                    refine kw_istore (pc := 81) (i := 50) (n := 4) (lv' := [(4, .int 0), (3, .int x32), (2, .int z16), (0, .ref 0), (1, .int n)]) rfl (by decide) rfl ?_
                    refine kw_iconst (pc := 83) (i := 51) (v := 0) rfl rfl ?_
                    refine kw_istore (pc := 84) (i := 52) (n := 5) (lv' := [(5, .int 0), (4, .int 0), (3, .int x32), (2, .int z16), (0, .ref 0), (1, .int n)]) rfl (by decide) rfl ?_
                    have L60 : ∀ (n64 : Nat) (x56 : Int32) (S57 : kw_S), kw_I (bM T) S57 → kw_FM [21, 22, 1002] σ S57 → 0 ≤ x56.toInt → l_X8_rival_0_86 (l_X8_rival_0_66 n z16 n41) n z16 x32 n64 x56 S57 = (f_X8_rival_0 σ n) → (65 - x56.toInt).toNat < n64 → kw_AW l 4 kw_E0 KM mX8_rival (p_X8_rival_0 T σ n) 86 [(5, .int x56), (4, .int 0), (3, .int x32), (2, .int z16), (0, .ref 0), (1, .int n)] [] S57 := by
                      intro n64
                      induction n64 with
                      | zero => intro x56 S57 I58 F59 v62 hF m63; exact absurd m63 (Nat.not_lt_zero _)
                      | succ n64 ih61 =>
                        intro x56 S57 I58 F59 v62 hF m63
                        replace hF := kf_st (l_X8_rival_0_86_s _ _ _ _ _ _ _) hF
                        have r_x56 := kw_rng x56
                        refine kw_iload (pc := 86) (i := 53) (k := 0) (n := 5) rfl rfl ?_
                        refine kw_iconst (pc := 88) (i := 54) (v := 1) rfl rfl ?_
                        refine kw_aload_n (pc := 89) (i := 55) (k := 4) (n := 0) rfl rfl rfl ?_
                        refine kw_get (pc := 90) (i := 56) (v := .int (S57.1 0 10)) rfl rfl rfl lkX8_163 (fun _ => rfl) ?_
                        have b65 : 0 ≤ (S57.1 0 10).toInt ∧ (S57.1 0 10).toInt ≤ 6 := I58 0 10
                        refine kw_ishl (pc := 93) (i := 57) rfl (fun z66 e_z66 => ?_)
                        have r_z66 := kw_rng z66
                        replace hF := kf_le e_z66 hF
                        have t_z66 := kw_shlm (S57.1 0 10) z66 e_z66
                        first | (replace t_z66 := And.intro (t_z66.1 (by omega) (by omega)) (t_z66.2 (by omega) (by omega))) | (replace t_z66 := t_z66.1 (by omega) (by omega)) | skip
                        have u_z66 := congrArg Int32.toInt e_z66
                        refine kw_icmp_ge (pc := 94) (i := 58) (tgt := 196) rfl rfl (fun c67 => ?_) (fun c67 => ?_)
                        · replace hF := kf_nl c67 hF
                          refine kw_iconst (pc := 196) (i := 106) (v := 0) rfl rfl ?_
                          refine kw_istore (pc := 197) (i := 107) (n := 5) (lv' := [(5, .int 0), (4, .int 0), (3, .int x32), (2, .int z16), (0, .ref 0), (1, .int n)]) rfl (by decide) rfl ?_
                          have L72 : ∀ (n76 : Nat) (x68 : Int32) (S69 : kw_S), kw_I (bM T) S69 → kw_FM [21, 22, 1002] σ S69 → 0 ≤ x68.toInt → l_X8_rival_0_199 (l_X8_rival_0_66 n z16 n41) n z16 x32 n76 x68 S69 = (f_X8_rival_0 σ n) → (65 - x68.toInt).toNat < n76 → kw_AW l 4 kw_E0 KM mX8_rival (p_X8_rival_0 T σ n) 199 [(5, .int x68), (4, .int 0), (3, .int x32), (2, .int z16), (0, .ref 0), (1, .int n)] [] S69 := by
                            intro n76
                            induction n76 with
                            | zero => intro x68 S69 I70 F71 v74 hF m75; exact absurd m75 (Nat.not_lt_zero _)
                            | succ n76 ih73 =>
                              intro x68 S69 I70 F71 v74 hF m75
                              replace hF := kf_st (l_X8_rival_0_199_s _ _ _ _ _ _ _) hF
                              have r_x68 := kw_rng x68
                              refine kw_iload (pc := 199) (i := 108) (k := 0) (n := 5) rfl rfl ?_
                              refine kw_iconst (pc := 201) (i := 109) (v := 1) rfl rfl ?_
                              refine kw_aload_n (pc := 202) (i := 110) (k := 4) (n := 0) rfl rfl rfl ?_
                              refine kw_get (pc := 203) (i := 111) (v := .int (S69.1 0 10)) rfl rfl rfl lkX8_163 (fun _ => rfl) ?_
                              have b77 : 0 ≤ (S69.1 0 10).toInt ∧ (S69.1 0 10).toInt ≤ 6 := I70 0 10
                              refine kw_ishl (pc := 206) (i := 112) rfl (fun z78 e_z78 => ?_)
                              have r_z78 := kw_rng z78
                              replace hF := kf_le e_z78 hF
                              have t_z78 := kw_shlm (S69.1 0 10) z78 e_z78
                              first | (replace t_z78 := And.intro (t_z78.1 (by omega) (by omega)) (t_z78.2 (by omega) (by omega))) | (replace t_z78 := t_z78.1 (by omega) (by omega)) | skip
                              have u_z78 := congrArg Int32.toInt e_z78
                              refine kw_icmp_ge (pc := 207) (i := 113) (tgt := 230) rfl rfl (fun c79 => ?_) (fun c79 => ?_)
                              · replace hF := kf_nl c79 hF
                                refine kw_iinc' (pc := 230) (i := 124) (k := 2) (fun z => [(3, .int z), (5, .int x68), (4, .int 0), (2, .int z16), (0, .ref 0), (1, .int n)]) rfl rfl (by decide) rfl (fun _ => rfl) (fun z80 e_z80 t_z80 => ?_)
                                replace hF := kf_le e_z80 hF
                                first | (have u_z80 : z80.toInt = x32.toInt + (-1) := (by omega); clear t_z80) | skip
                                refine kw_goto (pc := 233) (i := 125) (tgt := 66) rfl rfl ?_
                                refine kw_sub (lv' := [(3, .int z80), (2, .int z16), (0, .ref 0), (1, .int n)]) [0, 3, 4, 5] rfl ?_
                                exact ih37 z80 S69 I70 F71 (by omega) (by omega) hF (by omega)
                              · replace hF := kf_p c79 hF
                                refine kw_aload_n (pc := 210) (i := 114) (k := 4) (n := 0) rfl rfl rfl ?_
                                refine kw_get (pc := 211) (i := 115) (v := .ref 21) rfl rfl rfl lkX8_78 (fun _ => rfl) ?_
                                refine kw_iload (pc := 214) (i := 116) (k := 0) (n := 5) rfl rfl ?_
                                refine kw_aload_n (pc := 216) (i := 117) (k := 4) (n := 0) rfl rfl rfl ?_
                                refine kw_get (pc := 217) (i := 118) (v := .ref 22) rfl rfl rfl lkX8_81 (fun _ => rfl) ?_
                                refine kw_iload (pc := 220) (i := 119) (k := 0) (n := 5) rfl rfl ?_
                                refine kw_iald (pc := 222) (i := 120) (n := 64) rfl rfl (by omega) (by omega) (fun z81 e_z81 => ?_)
                                replace hF := kf_le e_z81 hF
                                have t_z81 := congrArg Int32.toInt e_z81
                                have r_z81 := kw_rng z81
                                refine kw_iast (pc := 223) (i := 121) (n := 64) rfl rfl (by omega) (by omega) ?_
                                have I82 : kw_I (bM T) (kw_ui S69 21 x68.toNatClampNeg z81) := kw_I_ui I70 (kw_rng z81).1 (Int.le_of_lt_add_one (kw_rng z81).2)
                                have F83 : kw_FM [21, 22, 1002] σ (kw_ui S69 21 x68.toNatClampNeg z81) := kw_FM_ui F71 (by decide) (by decide)
                                refine kw_iinc' (pc := 224) (i := 122) (k := 0) (fun z => [(5, .int z), (4, .int 0), (3, .int x32), (2, .int z16), (0, .ref 0), (1, .int n)]) rfl rfl (by decide) rfl (fun _ => rfl) (fun z84 e_z84 t_z84 => ?_)
                                replace hF := kf_le e_z84 hF
                                first | (have u_z84 : z84.toInt = x68.toInt + 1 := (by omega); clear t_z84) | skip
                                refine kw_goto (pc := 227) (i := 123) (tgt := 199) rfl rfl ?_
                                refine kw_sub (lv' := [(5, .int z84), (4, .int 0), (3, .int x32), (2, .int z16), (0, .ref 0), (1, .int n)]) [0, 1, 2, 3, 4, 5] rfl ?_
                                exact ih73 z84 (kw_ui S69 21 x68.toNatClampNeg z81) I82 F83 (by omega) hF (by omega)
                          exact L72 _ 0 S57 I58 F59 (by omega) hF (Nat.lt_succ_self _)
                        · replace hF := kf_p c67 hF
                          refine kw_aload_n (pc := 97) (i := 59) (k := 4) (n := 0) rfl rfl rfl ?_
                          refine kw_get (pc := 98) (i := 60) (v := .ref 21) rfl rfl rfl lkX8_78 (fun _ => rfl) ?_
                          refine kw_iload (pc := 101) (i := 61) (k := 0) (n := 5) rfl rfl ?_
                          refine kw_iald (pc := 103) (i := 62) (n := 64) rfl rfl (by omega) (by omega) (fun z85 e_z85 => ?_)
                          replace hF := kf_le e_z85 hF
                          have t_z85 := congrArg Int32.toInt e_z85
                          have r_z85 := kw_rng z85
                          refine kw_istore (pc := 104) (i := 63) (n := 6) (lv' := [(6, .int z85), (5, .int x56), (4, .int 0), (3, .int x32), (2, .int z16), (0, .ref 0), (1, .int n)]) rfl (by decide) rfl ?_
                          refine kw_iconst (pc := 106) (i := 64) (v := 0) rfl rfl ?_
                          refine kw_istore (pc := 107) (i := 65) (n := 7) (lv' := [(7, .int 0), (6, .int z85), (5, .int x56), (4, .int 0), (3, .int x32), (2, .int z16), (0, .ref 0), (1, .int n)]) rfl (by decide) rfl ?_
                          have L88 : ∀ (n92 : Nat) (x86 : Int32) (x87 : Int32), 0 ≤ x86.toInt → l_X8_rival_0_109 (l_X8_rival_0_66 n z16 n41) (l_X8_rival_0_86 (l_X8_rival_0_66 n z16 n41) n z16 x32 n64) n z16 x32 x56 S57 n92 x87 x86 = (f_X8_rival_0 σ n) → (7 - x86.toInt).toNat < n92 → kw_AW l 4 kw_E0 KM mX8_rival (p_X8_rival_0 T σ n) 109 [(7, .int x86), (6, .int x87), (5, .int x56), (4, .int 0), (3, .int x32), (2, .int z16), (0, .ref 0), (1, .int n)] [] S57 := by
                            intro n92
                            induction n92 with
                            | zero => intro x86 x87 v90 hF m91; exact absurd m91 (Nat.not_lt_zero _)
                            | succ n92 ih89 =>
                              intro x86 x87 v90 hF m91
                              replace hF := kf_st (l_X8_rival_0_109_s _ _ _ _ _ _ _ _ _ _) hF
                              have r_x86 := kw_rng x86
                              have r_x87 := kw_rng x87
                              refine kw_iload (pc := 109) (i := 66) (k := 0) (n := 7) rfl rfl ?_
                              refine kw_aload_n (pc := 111) (i := 67) (k := 6) (n := 0) rfl rfl rfl ?_
                              refine kw_get (pc := 112) (i := 68) (v := .int (S57.1 0 10)) rfl rfl rfl lkX8_163 (fun _ => rfl) ?_
                              refine kw_icmp_ge (pc := 115) (i := 69) (tgt := 181) rfl rfl (fun c93 => ?_) (fun c93 => ?_)
                              · replace hF := kf_nl c93 hF
                                refine kw_aload_n (pc := 181) (i := 99) (k := 6) (n := 0) rfl rfl rfl ?_
                                refine kw_get (pc := 182) (i := 100) (v := .ref 22) rfl rfl rfl lkX8_81 (fun _ => rfl) ?_
                                refine kw_iload (pc := 185) (i := 101) (k := 2) (n := 5) rfl rfl ?_
                                refine kw_iload (pc := 187) (i := 102) (k := 1) (n := 6) rfl rfl ?_
                                refine kw_iast (pc := 189) (i := 103) (n := 64) rfl rfl (by omega) (by omega) ?_
                                have I94 : kw_I (bM T) (kw_ui S57 22 x56.toNatClampNeg x87) := kw_I_ui I58 (kw_rng x87).1 (Int.le_of_lt_add_one (kw_rng x87).2)
                                have F95 : kw_FM [21, 22, 1002] σ (kw_ui S57 22 x56.toNatClampNeg x87) := kw_FM_ui F59 (by decide) (by decide)
                                refine kw_iinc' (pc := 190) (i := 104) (k := 2) (fun z => [(5, .int z), (7, .int x86), (6, .int x87), (4, .int 0), (3, .int x32), (2, .int z16), (0, .ref 0), (1, .int n)]) rfl rfl (by decide) rfl (fun _ => rfl) (fun z96 e_z96 t_z96 => ?_)
                                replace hF := kf_le e_z96 hF
                                first | (have u_z96 : z96.toInt = x56.toInt + 1 := (by omega); clear t_z96) | skip
                                refine kw_goto (pc := 193) (i := 105) (tgt := 86) rfl rfl ?_
                                refine kw_sub (lv' := [(5, .int z96), (4, .int 0), (3, .int x32), (2, .int z16), (0, .ref 0), (1, .int n)]) [0, 3, 4, 5, 6, 7] rfl ?_
                                exact ih61 z96 (kw_ui S57 22 x56.toNatClampNeg x87) I94 F95 (by omega) hF (by omega)
                              · replace hF := kf_p c93 hF
                                refine kw_iload (pc := 118) (i := 70) (k := 2) (n := 5) rfl rfl ?_
                                refine kw_iload (pc := 120) (i := 71) (k := 0) (n := 7) rfl rfl ?_
                                refine kw_callS (pc := 122) (i := 72) (Y := mX8_has) (As := [.int x56, .int x86]) (st := []) kw_hE rfl lsX8_185 arX8_has (c_X8_has l T hT0 hT1 S57 I58 x56 x86 ) (by decide) (Nat.le_of_ble_eq_true rfl) rfl (fun v S98 p97 => ?_)
                                obtain ⟨e102, z101, rfl, f99, ef100⟩ := p97
                                rw [e102]
                                replace hF := kf_le ef100 hF
                                have r_z101 := kw_rng z101
                                show kw_AW l 4 kw_E0 KM mX8_rival (p_X8_rival_0 T σ n) 125 [(7, .int x86), (6, .int x87), (5, .int x56), (4, .int 0), (3, .int x32), (2, .int z16), (0, .ref 0), (1, .int n)] [.int z101] S57
                                refine kw_iload (pc := 125) (i := 73) (k := 3) (n := 4) rfl rfl ?_
                                refine kw_icmp_eq (pc := 127) (i := 74) (tgt := 175) rfl rfl (fun c103 => ?_) (fun c103 => ?_)
                                · replace hF := kf_p c103 hF
                                  refine kw_iinc' (pc := 175) (i := 97) (k := 0) (fun z => [(7, .int z), (6, .int x87), (5, .int x56), (4, .int 0), (3, .int x32), (2, .int z16), (0, .ref 0), (1, .int n)]) rfl rfl (by decide) rfl (fun _ => rfl) (fun z104 e_z104 t_z104 => ?_)
                                  replace hF := kf_le e_z104 hF
                                  first | (have u_z104 : z104.toInt = x86.toInt + 1 := (by omega); clear t_z104) | skip
                                  refine kw_goto (pc := 178) (i := 98) (tgt := 109) rfl rfl ?_
                                  refine kw_sub (lv' := [(7, .int z104), (6, .int x87), (5, .int x56), (4, .int 0), (3, .int x32), (2, .int z16), (0, .ref 0), (1, .int n)]) [0, 1, 2, 3, 4, 5, 6, 7] rfl ?_
                                  exact ih89 z104 x87 (by omega) hF (by omega)
                                · replace hF := kf_n c103 hF
                                  refine kw_aload_n (pc := 130) (i := 75) (k := 6) (n := 0) rfl rfl rfl ?_
                                  refine kw_get (pc := 131) (i := 76) (v := .ref 21) rfl rfl rfl lkX8_78 (fun _ => rfl) ?_
                                  refine kw_iload (pc := 134) (i := 77) (k := 2) (n := 5) rfl rfl ?_
                                  refine kw_iconst (pc := 136) (i := 78) (v := 1) rfl rfl ?_
                                  refine kw_iload (pc := 137) (i := 79) (k := 0) (n := 7) rfl rfl ?_
                                  refine kw_ishl (pc := 139) (i := 80) rfl (fun z105 e_z105 => ?_)
                                  have r_z105 := kw_rng z105
                                  replace hF := kf_le e_z105 hF
                                  have t_z105 := kw_shlm x86 z105 e_z105
                                  first | (replace t_z105 := And.intro (t_z105.1 (by omega) (by omega)) (t_z105.2 (by omega) (by omega))) | (replace t_z105 := t_z105.1 (by omega) (by omega)) | skip
                                  have u_z105 := congrArg Int32.toInt e_z105
                                  refine kw_ixor (pc := 140) (i := 81) rfl (fun z106 e_z106 => ?_)
                                  have r_z106 := kw_rng z106
                                  replace hF := kf_le e_z106 hF
                                  have t_z106 := kw_xor63 x56 z105 z106 e_z106
                                  first | (replace t_z106 := t_z106 (by omega) (by omega) (by omega) (by omega)) | skip
                                  refine kw_iald (pc := 141) (i := 82) (n := 64) rfl rfl (by omega) (by omega) (fun z107 e_z107 => ?_)
                                  replace hF := kf_le e_z107 hF
                                  have t_z107 := congrArg Int32.toInt e_z107
                                  have r_z107 := kw_rng z107
                                  refine kw_istore (pc := 142) (i := 83) (n := 8) (lv' := [(8, .int z107), (7, .int x86), (6, .int x87), (5, .int x56), (4, .int 0), (3, .int x32), (2, .int z16), (0, .ref 0), (1, .int n)]) rfl (by decide) rfl ?_
                                  refine kw_iload (pc := 144) (i := 84) (k := 4) (n := 4) rfl rfl ?_
                                  refine kw_if_eq (pc := 146) (i := 85) (tgt := 159) rfl rfl (fun c108 => ?_) (fun c108 => ?_)
                                  · replace hF := kf_p c108 hF
                                    refine kw_iload (pc := 159) (i := 90) (k := 0) (n := 8) rfl rfl ?_
                                    refine kw_iload (pc := 161) (i := 91) (k := 2) (n := 6) rfl rfl ?_
                                    refine kw_icmp_ge (pc := 163) (i := 92) (tgt := 171) rfl rfl (fun c109 => ?_) (fun c109 => ?_)
                                    · replace hF := kf_nl c109 hF
                                      refine kw_iload (pc := 171) (i := 95) (k := 2) (n := 6) rfl rfl ?_
                                      refine kw_istore (pc := 173) (i := 96) (n := 6) (lv' := [(6, .int x87), (8, .int z107), (7, .int x86), (5, .int x56), (4, .int 0), (3, .int x32), (2, .int z16), (0, .ref 0), (1, .int n)]) rfl (by decide) rfl ?_
                                      refine kw_iinc' (pc := 175) (i := 97) (k := 2) (fun z => [(7, .int z), (6, .int x87), (8, .int z107), (5, .int x56), (4, .int 0), (3, .int x32), (2, .int z16), (0, .ref 0), (1, .int n)]) rfl rfl (by decide) rfl (fun _ => rfl) (fun z110 e_z110 t_z110 => ?_)
                                      replace hF := kf_le e_z110 hF
                                      first | (have u_z110 : z110.toInt = x86.toInt + 1 := (by omega); clear t_z110) | skip
                                      refine kw_goto (pc := 178) (i := 98) (tgt := 109) rfl rfl ?_
                                      refine kw_sub (lv' := [(7, .int z110), (6, .int x87), (5, .int x56), (4, .int 0), (3, .int x32), (2, .int z16), (0, .ref 0), (1, .int n)]) [0, 1, 3, 4, 5, 6, 7, 8] rfl ?_
                                      exact ih89 z110 x87 (by omega) hF (by omega)
                                    · replace hF := kf_p c109 hF
                                      refine kw_iload (pc := 166) (i := 93) (k := 0) (n := 8) rfl rfl ?_
                                      refine kw_goto (pc := 168) (i := 94) (tgt := 173) rfl rfl ?_
                                      refine kw_istore (pc := 173) (i := 96) (n := 6) (lv' := [(6, .int z107), (8, .int z107), (7, .int x86), (5, .int x56), (4, .int 0), (3, .int x32), (2, .int z16), (0, .ref 0), (1, .int n)]) rfl (by decide) rfl ?_
                                      refine kw_iinc' (pc := 175) (i := 97) (k := 2) (fun z => [(7, .int z), (6, .int z107), (8, .int z107), (5, .int x56), (4, .int 0), (3, .int x32), (2, .int z16), (0, .ref 0), (1, .int n)]) rfl rfl (by decide) rfl (fun _ => rfl) (fun z111 e_z111 t_z111 => ?_)
                                      replace hF := kf_le e_z111 hF
                                      first | (have u_z111 : z111.toInt = x86.toInt + 1 := (by omega); clear t_z111) | skip
                                      refine kw_goto (pc := 178) (i := 98) (tgt := 109) rfl rfl ?_
                                      refine kw_sub (lv' := [(7, .int z111), (6, .int z107), (5, .int x56), (4, .int 0), (3, .int x32), (2, .int z16), (0, .ref 0), (1, .int n)]) [0, 1, 3, 4, 5, 6, 7, 8] rfl ?_
                                      exact ih89 z111 z107 (by omega) hF (by omega)
                                  · exfalso; omega
                          exact L88 _ 0 z85 (by omega) hF (Nat.lt_succ_self _)
                    exact L60 _ 0 S33 I34 F35 (by omega) hF (Nat.lt_succ_self _)
                  · replace hF := kf_p c55 hF
                    refine kw_iconst (pc := 76) (i := 47) (v := 1) rfl rfl ?_
                    refine kw_goto (pc := 77) (i := 48) (tgt := 81) rfl rfl ?_
                    refine kw_istore (pc := 81) (i := 50) (n := 4) (lv' := [(4, .int 1), (3, .int x32), (2, .int z16), (0, .ref 0), (1, .int n)]) rfl (by decide) rfl ?_
                    refine kw_iconst (pc := 83) (i := 51) (v := 0) rfl rfl ?_
                    refine kw_istore (pc := 84) (i := 52) (n := 5) (lv' := [(5, .int 0), (4, .int 1), (3, .int x32), (2, .int z16), (0, .ref 0), (1, .int n)]) rfl (by decide) rfl ?_
                    have L116 : ∀ (n120 : Nat) (x112 : Int32) (S113 : kw_S), kw_I (bM T) S113 → kw_FM [21, 22, 1002] σ S113 → 0 ≤ x112.toInt → l_X8_rival_0_86a (l_X8_rival_0_66 n z16 n41) n z16 x32 n120 x112 S113 = (f_X8_rival_0 σ n) → (65 - x112.toInt).toNat < n120 → kw_AW l 4 kw_E0 KM mX8_rival (p_X8_rival_0 T σ n) 86 [(5, .int x112), (4, .int 1), (3, .int x32), (2, .int z16), (0, .ref 0), (1, .int n)] [] S113 := by
                      intro n120
                      induction n120 with
                      | zero => intro x112 S113 I114 F115 v118 hF m119; exact absurd m119 (Nat.not_lt_zero _)
                      | succ n120 ih117 =>
                        intro x112 S113 I114 F115 v118 hF m119
                        replace hF := kf_st (l_X8_rival_0_86a_s _ _ _ _ _ _ _) hF
                        have r_x112 := kw_rng x112
                        refine kw_iload (pc := 86) (i := 53) (k := 0) (n := 5) rfl rfl ?_
                        refine kw_iconst (pc := 88) (i := 54) (v := 1) rfl rfl ?_
                        refine kw_aload_n (pc := 89) (i := 55) (k := 4) (n := 0) rfl rfl rfl ?_
                        refine kw_get (pc := 90) (i := 56) (v := .int (S113.1 0 10)) rfl rfl rfl lkX8_163 (fun _ => rfl) ?_
                        have b121 : 0 ≤ (S113.1 0 10).toInt ∧ (S113.1 0 10).toInt ≤ 6 := I114 0 10
                        refine kw_ishl (pc := 93) (i := 57) rfl (fun z122 e_z122 => ?_)
                        have r_z122 := kw_rng z122
                        replace hF := kf_le e_z122 hF
                        have t_z122 := kw_shlm (S113.1 0 10) z122 e_z122
                        first | (replace t_z122 := And.intro (t_z122.1 (by omega) (by omega)) (t_z122.2 (by omega) (by omega))) | (replace t_z122 := t_z122.1 (by omega) (by omega)) | skip
                        have u_z122 := congrArg Int32.toInt e_z122
                        refine kw_icmp_ge (pc := 94) (i := 58) (tgt := 196) rfl rfl (fun c123 => ?_) (fun c123 => ?_)
                        · replace hF := kf_nl c123 hF
                          refine kw_iconst (pc := 196) (i := 106) (v := 0) rfl rfl ?_
                          refine kw_istore (pc := 197) (i := 107) (n := 5) (lv' := [(5, .int 0), (4, .int 1), (3, .int x32), (2, .int z16), (0, .ref 0), (1, .int n)]) rfl (by decide) rfl ?_
                          have L128 : ∀ (n132 : Nat) (x124 : Int32) (S125 : kw_S), kw_I (bM T) S125 → kw_FM [21, 22, 1002] σ S125 → 0 ≤ x124.toInt → l_X8_rival_0_199a (l_X8_rival_0_66 n z16 n41) n z16 x32 n132 x124 S125 = (f_X8_rival_0 σ n) → (65 - x124.toInt).toNat < n132 → kw_AW l 4 kw_E0 KM mX8_rival (p_X8_rival_0 T σ n) 199 [(5, .int x124), (4, .int 1), (3, .int x32), (2, .int z16), (0, .ref 0), (1, .int n)] [] S125 := by
                            intro n132
                            induction n132 with
                            | zero => intro x124 S125 I126 F127 v130 hF m131; exact absurd m131 (Nat.not_lt_zero _)
                            | succ n132 ih129 =>
                              intro x124 S125 I126 F127 v130 hF m131
                              replace hF := kf_st (l_X8_rival_0_199a_s _ _ _ _ _ _ _) hF
                              have r_x124 := kw_rng x124
                              refine kw_iload (pc := 199) (i := 108) (k := 0) (n := 5) rfl rfl ?_
                              refine kw_iconst (pc := 201) (i := 109) (v := 1) rfl rfl ?_
                              refine kw_aload_n (pc := 202) (i := 110) (k := 4) (n := 0) rfl rfl rfl ?_
                              refine kw_get (pc := 203) (i := 111) (v := .int (S125.1 0 10)) rfl rfl rfl lkX8_163 (fun _ => rfl) ?_
                              have b133 : 0 ≤ (S125.1 0 10).toInt ∧ (S125.1 0 10).toInt ≤ 6 := I126 0 10
                              refine kw_ishl (pc := 206) (i := 112) rfl (fun z134 e_z134 => ?_)
                              have r_z134 := kw_rng z134
                              replace hF := kf_le e_z134 hF
                              have t_z134 := kw_shlm (S125.1 0 10) z134 e_z134
                              first | (replace t_z134 := And.intro (t_z134.1 (by omega) (by omega)) (t_z134.2 (by omega) (by omega))) | (replace t_z134 := t_z134.1 (by omega) (by omega)) | skip
                              have u_z134 := congrArg Int32.toInt e_z134
                              refine kw_icmp_ge (pc := 207) (i := 113) (tgt := 230) rfl rfl (fun c135 => ?_) (fun c135 => ?_)
                              · replace hF := kf_nl c135 hF
                                refine kw_iinc' (pc := 230) (i := 124) (k := 2) (fun z => [(3, .int z), (5, .int x124), (4, .int 1), (2, .int z16), (0, .ref 0), (1, .int n)]) rfl rfl (by decide) rfl (fun _ => rfl) (fun z136 e_z136 t_z136 => ?_)
                                replace hF := kf_le e_z136 hF
                                first | (have u_z136 : z136.toInt = x32.toInt + (-1) := (by omega); clear t_z136) | skip
                                refine kw_goto (pc := 233) (i := 125) (tgt := 66) rfl rfl ?_
                                refine kw_sub (lv' := [(3, .int z136), (2, .int z16), (0, .ref 0), (1, .int n)]) [0, 3, 4, 5] rfl ?_
                                exact ih37 z136 S125 I126 F127 (by omega) (by omega) hF (by omega)
                              · replace hF := kf_p c135 hF
                                refine kw_aload_n (pc := 210) (i := 114) (k := 4) (n := 0) rfl rfl rfl ?_
                                refine kw_get (pc := 211) (i := 115) (v := .ref 21) rfl rfl rfl lkX8_78 (fun _ => rfl) ?_
                                refine kw_iload (pc := 214) (i := 116) (k := 0) (n := 5) rfl rfl ?_
                                refine kw_aload_n (pc := 216) (i := 117) (k := 4) (n := 0) rfl rfl rfl ?_
                                refine kw_get (pc := 217) (i := 118) (v := .ref 22) rfl rfl rfl lkX8_81 (fun _ => rfl) ?_
                                refine kw_iload (pc := 220) (i := 119) (k := 0) (n := 5) rfl rfl ?_
                                refine kw_iald (pc := 222) (i := 120) (n := 64) rfl rfl (by omega) (by omega) (fun z137 e_z137 => ?_)
                                replace hF := kf_le e_z137 hF
                                have t_z137 := congrArg Int32.toInt e_z137
                                have r_z137 := kw_rng z137
                                refine kw_iast (pc := 223) (i := 121) (n := 64) rfl rfl (by omega) (by omega) ?_
                                have I138 : kw_I (bM T) (kw_ui S125 21 x124.toNatClampNeg z137) := kw_I_ui I126 (kw_rng z137).1 (Int.le_of_lt_add_one (kw_rng z137).2)
                                have F139 : kw_FM [21, 22, 1002] σ (kw_ui S125 21 x124.toNatClampNeg z137) := kw_FM_ui F127 (by decide) (by decide)
                                refine kw_iinc' (pc := 224) (i := 122) (k := 0) (fun z => [(5, .int z), (4, .int 1), (3, .int x32), (2, .int z16), (0, .ref 0), (1, .int n)]) rfl rfl (by decide) rfl (fun _ => rfl) (fun z140 e_z140 t_z140 => ?_)
                                replace hF := kf_le e_z140 hF
                                first | (have u_z140 : z140.toInt = x124.toInt + 1 := (by omega); clear t_z140) | skip
                                refine kw_goto (pc := 227) (i := 123) (tgt := 199) rfl rfl ?_
                                refine kw_sub (lv' := [(5, .int z140), (4, .int 1), (3, .int x32), (2, .int z16), (0, .ref 0), (1, .int n)]) [0, 1, 2, 3, 4, 5] rfl ?_
                                exact ih129 z140 (kw_ui S125 21 x124.toNatClampNeg z137) I138 F139 (by omega) hF (by omega)
                          exact L128 _ 0 S113 I114 F115 (by omega) hF (Nat.lt_succ_self _)
                        · replace hF := kf_p c123 hF
                          refine kw_aload_n (pc := 97) (i := 59) (k := 4) (n := 0) rfl rfl rfl ?_
                          refine kw_get (pc := 98) (i := 60) (v := .ref 21) rfl rfl rfl lkX8_78 (fun _ => rfl) ?_
                          refine kw_iload (pc := 101) (i := 61) (k := 0) (n := 5) rfl rfl ?_
                          refine kw_iald (pc := 103) (i := 62) (n := 64) rfl rfl (by omega) (by omega) (fun z141 e_z141 => ?_)
                          replace hF := kf_le e_z141 hF
                          have t_z141 := congrArg Int32.toInt e_z141
                          have r_z141 := kw_rng z141
                          refine kw_istore (pc := 104) (i := 63) (n := 6) (lv' := [(6, .int z141), (5, .int x112), (4, .int 1), (3, .int x32), (2, .int z16), (0, .ref 0), (1, .int n)]) rfl (by decide) rfl ?_
                          refine kw_iconst (pc := 106) (i := 64) (v := 0) rfl rfl ?_
                          refine kw_istore (pc := 107) (i := 65) (n := 7) (lv' := [(7, .int 0), (6, .int z141), (5, .int x112), (4, .int 1), (3, .int x32), (2, .int z16), (0, .ref 0), (1, .int n)]) rfl (by decide) rfl ?_
                          have L144 : ∀ (n148 : Nat) (x142 : Int32) (x143 : Int32), 0 ≤ x142.toInt → l_X8_rival_0_109a (l_X8_rival_0_66 n z16 n41) (l_X8_rival_0_86a (l_X8_rival_0_66 n z16 n41) n z16 x32 n120) n z16 x32 x112 S113 n148 x143 x142 = (f_X8_rival_0 σ n) → (7 - x142.toInt).toNat < n148 → kw_AW l 4 kw_E0 KM mX8_rival (p_X8_rival_0 T σ n) 109 [(7, .int x142), (6, .int x143), (5, .int x112), (4, .int 1), (3, .int x32), (2, .int z16), (0, .ref 0), (1, .int n)] [] S113 := by
                            intro n148
                            induction n148 with
                            | zero => intro x142 x143 v146 hF m147; exact absurd m147 (Nat.not_lt_zero _)
                            | succ n148 ih145 =>
                              intro x142 x143 v146 hF m147
                              replace hF := kf_st (l_X8_rival_0_109a_s _ _ _ _ _ _ _ _ _ _) hF
                              have r_x142 := kw_rng x142
                              have r_x143 := kw_rng x143
                              refine kw_iload (pc := 109) (i := 66) (k := 0) (n := 7) rfl rfl ?_
                              refine kw_aload_n (pc := 111) (i := 67) (k := 6) (n := 0) rfl rfl rfl ?_
                              refine kw_get (pc := 112) (i := 68) (v := .int (S113.1 0 10)) rfl rfl rfl lkX8_163 (fun _ => rfl) ?_
                              refine kw_icmp_ge (pc := 115) (i := 69) (tgt := 181) rfl rfl (fun c149 => ?_) (fun c149 => ?_)
                              · replace hF := kf_nl c149 hF
                                refine kw_aload_n (pc := 181) (i := 99) (k := 6) (n := 0) rfl rfl rfl ?_
                                refine kw_get (pc := 182) (i := 100) (v := .ref 22) rfl rfl rfl lkX8_81 (fun _ => rfl) ?_
                                refine kw_iload (pc := 185) (i := 101) (k := 2) (n := 5) rfl rfl ?_
                                refine kw_iload (pc := 187) (i := 102) (k := 1) (n := 6) rfl rfl ?_
                                refine kw_iast (pc := 189) (i := 103) (n := 64) rfl rfl (by omega) (by omega) ?_
                                have I150 : kw_I (bM T) (kw_ui S113 22 x112.toNatClampNeg x143) := kw_I_ui I114 (kw_rng x143).1 (Int.le_of_lt_add_one (kw_rng x143).2)
                                have F151 : kw_FM [21, 22, 1002] σ (kw_ui S113 22 x112.toNatClampNeg x143) := kw_FM_ui F115 (by decide) (by decide)
                                refine kw_iinc' (pc := 190) (i := 104) (k := 2) (fun z => [(5, .int z), (7, .int x142), (6, .int x143), (4, .int 1), (3, .int x32), (2, .int z16), (0, .ref 0), (1, .int n)]) rfl rfl (by decide) rfl (fun _ => rfl) (fun z152 e_z152 t_z152 => ?_)
                                replace hF := kf_le e_z152 hF
                                first | (have u_z152 : z152.toInt = x112.toInt + 1 := (by omega); clear t_z152) | skip
                                refine kw_goto (pc := 193) (i := 105) (tgt := 86) rfl rfl ?_
                                refine kw_sub (lv' := [(5, .int z152), (4, .int 1), (3, .int x32), (2, .int z16), (0, .ref 0), (1, .int n)]) [0, 3, 4, 5, 6, 7] rfl ?_
                                exact ih117 z152 (kw_ui S113 22 x112.toNatClampNeg x143) I150 F151 (by omega) hF (by omega)
                              · replace hF := kf_p c149 hF
                                refine kw_iload (pc := 118) (i := 70) (k := 2) (n := 5) rfl rfl ?_
                                refine kw_iload (pc := 120) (i := 71) (k := 0) (n := 7) rfl rfl ?_
                                refine kw_callS (pc := 122) (i := 72) (Y := mX8_has) (As := [.int x112, .int x142]) (st := []) kw_hE rfl lsX8_185 arX8_has (c_X8_has l T hT0 hT1 S113 I114 x112 x142 ) (by decide) (Nat.le_of_ble_eq_true rfl) rfl (fun v S154 p153 => ?_)
                                obtain ⟨e158, z157, rfl, f155, ef156⟩ := p153
                                rw [e158]
                                replace hF := kf_le ef156 hF
                                have r_z157 := kw_rng z157
                                show kw_AW l 4 kw_E0 KM mX8_rival (p_X8_rival_0 T σ n) 125 [(7, .int x142), (6, .int x143), (5, .int x112), (4, .int 1), (3, .int x32), (2, .int z16), (0, .ref 0), (1, .int n)] [.int z157] S113
                                refine kw_iload (pc := 125) (i := 73) (k := 3) (n := 4) rfl rfl ?_
                                refine kw_icmp_eq (pc := 127) (i := 74) (tgt := 175) rfl rfl (fun c159 => ?_) (fun c159 => ?_)
                                · replace hF := kf_p c159 hF
                                  refine kw_iinc' (pc := 175) (i := 97) (k := 0) (fun z => [(7, .int z), (6, .int x143), (5, .int x112), (4, .int 1), (3, .int x32), (2, .int z16), (0, .ref 0), (1, .int n)]) rfl rfl (by decide) rfl (fun _ => rfl) (fun z160 e_z160 t_z160 => ?_)
                                  replace hF := kf_le e_z160 hF
                                  first | (have u_z160 : z160.toInt = x142.toInt + 1 := (by omega); clear t_z160) | skip
                                  refine kw_goto (pc := 178) (i := 98) (tgt := 109) rfl rfl ?_
                                  refine kw_sub (lv' := [(7, .int z160), (6, .int x143), (5, .int x112), (4, .int 1), (3, .int x32), (2, .int z16), (0, .ref 0), (1, .int n)]) [0, 1, 2, 3, 4, 5, 6, 7] rfl ?_
                                  exact ih145 z160 x143 (by omega) hF (by omega)
                                · replace hF := kf_n c159 hF
                                  refine kw_aload_n (pc := 130) (i := 75) (k := 6) (n := 0) rfl rfl rfl ?_
                                  refine kw_get (pc := 131) (i := 76) (v := .ref 21) rfl rfl rfl lkX8_78 (fun _ => rfl) ?_
                                  refine kw_iload (pc := 134) (i := 77) (k := 2) (n := 5) rfl rfl ?_
                                  refine kw_iconst (pc := 136) (i := 78) (v := 1) rfl rfl ?_
                                  refine kw_iload (pc := 137) (i := 79) (k := 0) (n := 7) rfl rfl ?_
                                  refine kw_ishl (pc := 139) (i := 80) rfl (fun z161 e_z161 => ?_)
                                  have r_z161 := kw_rng z161
                                  replace hF := kf_le e_z161 hF
                                  have t_z161 := kw_shlm x142 z161 e_z161
                                  first | (replace t_z161 := And.intro (t_z161.1 (by omega) (by omega)) (t_z161.2 (by omega) (by omega))) | (replace t_z161 := t_z161.1 (by omega) (by omega)) | skip
                                  have u_z161 := congrArg Int32.toInt e_z161
                                  refine kw_ixor (pc := 140) (i := 81) rfl (fun z162 e_z162 => ?_)
                                  have r_z162 := kw_rng z162
                                  replace hF := kf_le e_z162 hF
                                  have t_z162 := kw_xor63 x112 z161 z162 e_z162
                                  first | (replace t_z162 := t_z162 (by omega) (by omega) (by omega) (by omega)) | skip
                                  refine kw_iald (pc := 141) (i := 82) (n := 64) rfl rfl (by omega) (by omega) (fun z163 e_z163 => ?_)
                                  replace hF := kf_le e_z163 hF
                                  have t_z163 := congrArg Int32.toInt e_z163
                                  have r_z163 := kw_rng z163
                                  refine kw_istore (pc := 142) (i := 83) (n := 8) (lv' := [(8, .int z163), (7, .int x142), (6, .int x143), (5, .int x112), (4, .int 1), (3, .int x32), (2, .int z16), (0, .ref 0), (1, .int n)]) rfl (by decide) rfl ?_
                                  refine kw_iload (pc := 144) (i := 84) (k := 4) (n := 4) rfl rfl ?_
                                  refine kw_if_eq (pc := 146) (i := 85) (tgt := 159) rfl rfl (fun c164 => ?_) (fun c164 => ?_)
                                  · exfalso; omega
                                  · replace hF := kf_n c164 hF
                                    refine kw_iload (pc := 149) (i := 86) (k := 2) (n := 6) rfl rfl ?_
                                    refine kw_iload (pc := 151) (i := 87) (k := 0) (n := 8) rfl rfl ?_
                                    refine kw_callS (pc := 153) (i := 88) (Y := mX8_greater) (As := [.int x143, .int z163]) (st := []) kw_hE rfl lsX8_265 arX8_greater (c_X8_greater l T hT0 hT1 S113 I114 x143 z163 ) (by decide) (Nat.le_of_ble_eq_true rfl) rfl (fun v S166 p165 => ?_)
                                    obtain ⟨e169, z168, rfl, ef167⟩ := p165
                                    rw [e169]
                                    replace hF := kf_le ef167 hF
                                    have r_z168 := kw_rng z168
                                    show kw_AW l 4 kw_E0 KM mX8_rival (p_X8_rival_0 T σ n) 156 [(8, .int z163), (7, .int x142), (6, .int x143), (5, .int x112), (4, .int 1), (3, .int x32), (2, .int z16), (0, .ref 0), (1, .int n)] [.int z168] S113
                                    refine kw_goto (pc := 156) (i := 89) (tgt := 173) rfl rfl ?_
                                    refine kw_istore (pc := 173) (i := 96) (n := 6) (lv' := [(6, .int z168), (8, .int z163), (7, .int x142), (5, .int x112), (4, .int 1), (3, .int x32), (2, .int z16), (0, .ref 0), (1, .int n)]) rfl (by decide) rfl ?_
                                    refine kw_iinc' (pc := 175) (i := 97) (k := 2) (fun z => [(7, .int z), (6, .int z168), (8, .int z163), (5, .int x112), (4, .int 1), (3, .int x32), (2, .int z16), (0, .ref 0), (1, .int n)]) rfl rfl (by decide) rfl (fun _ => rfl) (fun z170 e_z170 t_z170 => ?_)
                                    replace hF := kf_le e_z170 hF
                                    first | (have u_z170 : z170.toInt = x142.toInt + 1 := (by omega); clear t_z170) | skip
                                    refine kw_goto (pc := 178) (i := 98) (tgt := 109) rfl rfl ?_
                                    refine kw_sub (lv' := [(7, .int z170), (6, .int z168), (5, .int x112), (4, .int 1), (3, .int x32), (2, .int z16), (0, .ref 0), (1, .int n)]) [0, 1, 3, 4, 5, 6, 7, 8] rfl ?_
                                    exact ih145 z170 z168 (by omega) hF (by omega)
                          exact L144 _ 0 z141 (by omega) hF (Nat.lt_succ_self _)
                    exact L116 _ 0 S33 I34 F35 (by omega) hF (Nat.lt_succ_self _)
            exact L36 _ z31 S19 I20 F21 (by omega) (by omega) hF (Nat.lt_succ_self _)
          · replace hF := kf_p c29 hF
            refine kw_aload_n (pc := 42) (i := 25) (k := 2) (n := 0) rfl rfl rfl ?_
            refine kw_get (pc := 43) (i := 26) (v := .ref 21) rfl rfl rfl lkX8_78 (fun _ => rfl) ?_
            refine kw_iload_n (pc := 46) (i := 27) (k := 0) (n := 3) rfl rfl rfl ?_
            refine kw_aload_n (pc := 47) (i := 28) (k := 2) (n := 0) rfl rfl rfl ?_
            refine kw_iload_n (pc := 48) (i := 29) (k := 0) (n := 3) rfl rfl rfl ?_
            refine kw_iload_n (pc := 49) (i := 30) (k := 1) (n := 2) rfl rfl rfl ?_
            refine kw_callV (pc := 50) (i := 31) (Y := mX8_milesBy) (a := 0) (As := [.int x18, .int z16]) (st := [.int x18, .ref 21]) kw_hE rfl rfl lvX8_199 arX8_milesBy (c_X8_milesBy_0 l T hT0 hT1 S19 I20 x18 z16 ) (by decide) (Nat.le_of_ble_eq_true rfl) rfl (fun v S172 p171 => ?_)
            obtain ⟨e175, z174, rfl, ef173⟩ := p171
            rw [e175]
            replace hF := kf_le ef173 hF
            have r_z174 := kw_rng z174
            show kw_AW l 4 kw_E0 KM mX8_rival (p_X8_rival_0 T σ n) 53 [(3, .int x18), (2, .int z16), (0, .ref 0), (1, .int n)] [.int z174, .int x18, .ref 21] S19
            refine kw_iast (pc := 53) (i := 32) (n := 64) rfl rfl (by omega) (by omega) ?_
            have I176 : kw_I (bM T) (kw_ui S19 21 x18.toNatClampNeg z174) := kw_I_ui I20 (kw_rng z174).1 (Int.le_of_lt_add_one (kw_rng z174).2)
            have F177 : kw_FM [21, 22, 1002] σ (kw_ui S19 21 x18.toNatClampNeg z174) := kw_FM_ui F21 (by decide) (by decide)
            refine kw_iinc' (pc := 54) (i := 33) (k := 0) (fun z => [(3, .int z), (2, .int z16), (0, .ref 0), (1, .int n)]) rfl rfl (by decide) rfl (fun _ => rfl) (fun z178 e_z178 t_z178 => ?_)
            replace hF := kf_le e_z178 hF
            first | (have u_z178 : z178.toInt = x18.toInt + 1 := (by omega); clear t_z178) | skip
            refine kw_goto (pc := 57) (i := 34) (tgt := 32) rfl rfl ?_
            refine kw_sub (lv' := [(3, .int z178), (2, .int z16), (0, .ref 0), (1, .int n)]) [0, 1, 2, 3] rfl ?_
            exact ih23 z178 (kw_ui S19 21 x18.toNatClampNeg z174) I176 F177 (by omega) hF (by omega)
      exact L22 _ 0 σ hI hF0 (by omega) hF (Nat.lt_succ_self _)
    · replace hF := kf_p c11 hF
      refine kw_bipush (pc := 18) (i := 10) (v := (-4)) rfl rfl ?_
      exact kw_ireturn (pc := 20) (i := 11) (ty := .int) rfl rfl rfl ⟨⟨hI, hF0⟩, _, rfl, by omega, hF⟩
  · replace hF := kf_p c9 hF
    refine kw_iconst (pc := 9) (i := 5) (v := (-1)) rfl rfl ?_
    exact kw_ireturn (pc := 10) (i := 6) (ty := .int) rfl rfl rfl ⟨⟨hI, hF0⟩, _, rfl, by omega, hF⟩
end
