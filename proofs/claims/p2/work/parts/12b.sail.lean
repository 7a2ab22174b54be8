abbrev p_X6_sailFrom_7 (σ : kw_S) (k : Int32) (m : Int32) (t : Int32) : Option Value → kw_S → Prop := fun v σ' => (kw_I bX σ' ∧ kw_F [7, 24, 27] σ σ') ∧ v = none
set_option maxRecDepth 100000 in
set_option maxHeartbeats 4000000 in
theorem c_X6_sailFrom_7 (l : Launch) : ∀ (n : Nat) (σ : kw_S) (hI : kw_I bX σ) (k : Int32) (m : Int32) (t : Int32) (hp0 : 0 ≤ k.toInt) (hp1 : 3 ≤ k.toInt + n), kw_Met l (3 + n) KX mX6_sailFrom [.ref 7, .int k, .int m, .int t] σ (p_X6_sailFrom_7 σ k m t) := by
  intro n
  induction n with
  | zero =>
    intro σ hI k m t hp0 hp1
    have r_k := kw_rng k
    have r_m := kw_rng m
    have r_t := kw_rng t
    have hF0 : kw_F [7, 24, 27] σ σ := kw_F.rf
    have q_0 : (0 : Int32).toInt = 0 := rfl
    have q_1 : (1 : Int32).toInt = 1 := rfl
    have q_3 : (3 : Int32).toInt = 3 := rfl
    refine kw_Met.of (by decide) rfl tX6_sailFrom (Nat.le_of_ble_eq_true rfl) ?_
    show kw_AW l (3 + 0) kw_E0 KX mX6_sailFrom (p_X6_sailFrom_7 σ k m t) 0 [(0, .ref 7), (1, .int k), (2, .int m), (3, .int t)] [] σ
    refine kw_iload_n (pc := 0) (i := 0) (k := 1) (n := 1) rfl rfl rfl ?_
    refine kw_aload_n (pc := 1) (i := 1) (k := 0) (n := 0) rfl rfl rfl ?_
    refine kw_get (pc := 2) (i := 2) (v := .int (σ.1 7 6)) rfl rfl rfl lkX6_34 (fun _ => rfl) ?_
    have b1 : 0 ≤ (σ.1 7 6).toInt ∧ (σ.1 7 6).toInt ≤ 3 := hI 7 6
    refine kw_icmp_ge (pc := 5) (i := 3) (tgt := 13) rfl rfl (fun c2 => ?_) (fun c2 => ?_)
    · refine kw_aload_n (pc := 13) (i := 7) (k := 0) (n := 0) rfl rfl rfl ?_
      refine kw_iconst (pc := 14) (i := 8) (v := 1) rfl rfl ?_
      refine kw_puti (pc := 15) (i := 9) (z := 0) rfl rfl rfl lpX6_41 rfl rfl ?_
      have I3 : kw_I bX (kw_ui σ 7 5 1) := kw_I_ui hI (show 0 ≤ (1 : Int32).toInt by omega) (show (1 : Int32).toInt ≤ 1 by omega)
      have F4 : kw_F [7, 24, 27] σ (kw_ui σ 7 5 1) := kw_F_ui hF0 (by decide)
      refine kw_aload_n (pc := 18) (i := 10) (k := 0) (n := 0) rfl rfl rfl ?_
      refine kw_iload_n (pc := 19) (i := 11) (k := 2) (n := 2) rfl rfl rfl ?_
      refine kw_puti (pc := 20) (i := 12) (z := 0) rfl rfl rfl lpX6_78 rfl rfl ?_
      have I5 : kw_I bX (kw_ui (kw_ui σ 7 5 1) 7 1 m) := kw_I_ui I3 (kw_rng m).1 (Int.le_of_lt_add_one (kw_rng m).2)
      have F6 : kw_F [7, 24, 27] σ (kw_ui (kw_ui σ 7 5 1) 7 1 m) := kw_F_ui F4 (by decide)
      refine kw_aload_n (pc := 23) (i := 13) (k := 0) (n := 0) rfl rfl rfl ?_
      refine kw_get (pc := 24) (i := 14) (v := .ref 27) rfl rfl rfl lkX6_24 (fun _ => rfl) ?_
      refine kw_iconst (pc := 27) (i := 15) (v := 0) rfl rfl ?_
      refine kw_aload_n (pc := 28) (i := 16) (k := 0) (n := 0) rfl rfl rfl ?_
      refine kw_get (pc := 29) (i := 17) (v := .ref 24) rfl rfl rfl lkX6_9 (fun _ => rfl) ?_
      refine kw_iconst (pc := 32) (i := 18) (v := 0) rfl rfl ?_
      refine kw_iconst (pc := 33) (i := 19) (v := 3) rfl rfl ?_
      refine kw_copy (pc := 34) (i := 20) (n := 3) (m_ := 3) rfl laX6_81 rfl rfl (by omega) (by omega) (by omega) (by omega) (by omega) (by omega) (Nat.le_of_ble_eq_true rfl) ?_
      have I7 : kw_I bX (kw_ua (kw_ui (kw_ui σ 7 5 1) 7 1 m) 24 (va_cpy ((kw_ui (kw_ui σ 7 5 1) 7 1 m).1 27) ((kw_ui (kw_ui σ 7 5 1) 7 1 m).1 24) ((0 : Int32).toNatClampNeg) ((0 : Int32).toNatClampNeg) ((3 : Int32).toNatClampNeg))) := kw_I_ua I5 (fun j => ⟨(kw_rng _).1, Int.le_of_lt_add_one (kw_rng _).2⟩)
      have F8 : kw_F [7, 24, 27] σ (kw_ua (kw_ui (kw_ui σ 7 5 1) 7 1 m) 24 (va_cpy ((kw_ui (kw_ui σ 7 5 1) 7 1 m).1 27) ((kw_ui (kw_ui σ 7 5 1) 7 1 m).1 24) ((0 : Int32).toNatClampNeg) ((0 : Int32).toNatClampNeg) ((3 : Int32).toNatClampNeg))) := kw_F_ua F6 (by decide)
      generalize (kw_ua (kw_ui (kw_ui σ 7 5 1) 7 1 m) 24 (va_cpy ((kw_ui (kw_ui σ 7 5 1) 7 1 m).1 27) ((kw_ui (kw_ui σ 7 5 1) 7 1 m).1 24) ((0 : Int32).toNatClampNeg) ((0 : Int32).toNatClampNeg) ((3 : Int32).toNatClampNeg))) = S9 at I7 F8 ⊢
      exact kw_return (pc := 37) (i := 21) rfl rfl ⟨⟨I7, F8⟩, rfl⟩
    · refine kw_iload_n (pc := 8) (i := 4) (k := 1) (n := 1) rfl rfl rfl ?_
      refine kw_iconst (pc := 9) (i := 5) (v := 3) rfl rfl ?_
      refine kw_icmp_lt (pc := 10) (i := 6) (tgt := 38) rfl rfl (fun c10 => ?_) (fun c10 => ?_)
      · exfalso; omega
      · refine kw_aload_n (pc := 13) (i := 7) (k := 0) (n := 0) rfl rfl rfl ?_
        refine kw_iconst (pc := 14) (i := 8) (v := 1) rfl rfl ?_
        refine kw_puti (pc := 15) (i := 9) (z := 0) rfl rfl rfl lpX6_41 rfl rfl ?_
        have I11 : kw_I bX (kw_ui σ 7 5 1) := kw_I_ui hI (show 0 ≤ (1 : Int32).toInt by omega) (show (1 : Int32).toInt ≤ 1 by omega)
        have F12 : kw_F [7, 24, 27] σ (kw_ui σ 7 5 1) := kw_F_ui hF0 (by decide)
        refine kw_aload_n (pc := 18) (i := 10) (k := 0) (n := 0) rfl rfl rfl ?_
        refine kw_iload_n (pc := 19) (i := 11) (k := 2) (n := 2) rfl rfl rfl ?_
        refine kw_puti (pc := 20) (i := 12) (z := 0) rfl rfl rfl lpX6_78 rfl rfl ?_
        have I13 : kw_I bX (kw_ui (kw_ui σ 7 5 1) 7 1 m) := kw_I_ui I11 (kw_rng m).1 (Int.le_of_lt_add_one (kw_rng m).2)
        have F14 : kw_F [7, 24, 27] σ (kw_ui (kw_ui σ 7 5 1) 7 1 m) := kw_F_ui F12 (by decide)
        refine kw_aload_n (pc := 23) (i := 13) (k := 0) (n := 0) rfl rfl rfl ?_
        refine kw_get (pc := 24) (i := 14) (v := .ref 27) rfl rfl rfl lkX6_24 (fun _ => rfl) ?_
        refine kw_iconst (pc := 27) (i := 15) (v := 0) rfl rfl ?_
        refine kw_aload_n (pc := 28) (i := 16) (k := 0) (n := 0) rfl rfl rfl ?_
        refine kw_get (pc := 29) (i := 17) (v := .ref 24) rfl rfl rfl lkX6_9 (fun _ => rfl) ?_
        refine kw_iconst (pc := 32) (i := 18) (v := 0) rfl rfl ?_
        refine kw_iconst (pc := 33) (i := 19) (v := 3) rfl rfl ?_
        refine kw_copy (pc := 34) (i := 20) (n := 3) (m_ := 3) rfl laX6_81 rfl rfl (by omega) (by omega) (by omega) (by omega) (by omega) (by omega) (Nat.le_of_ble_eq_true rfl) ?_
        have I15 : kw_I bX (kw_ua (kw_ui (kw_ui σ 7 5 1) 7 1 m) 24 (va_cpy ((kw_ui (kw_ui σ 7 5 1) 7 1 m).1 27) ((kw_ui (kw_ui σ 7 5 1) 7 1 m).1 24) ((0 : Int32).toNatClampNeg) ((0 : Int32).toNatClampNeg) ((3 : Int32).toNatClampNeg))) := kw_I_ua I13 (fun j => ⟨(kw_rng _).1, Int.le_of_lt_add_one (kw_rng _).2⟩)
        have F16 : kw_F [7, 24, 27] σ (kw_ua (kw_ui (kw_ui σ 7 5 1) 7 1 m) 24 (va_cpy ((kw_ui (kw_ui σ 7 5 1) 7 1 m).1 27) ((kw_ui (kw_ui σ 7 5 1) 7 1 m).1 24) ((0 : Int32).toNatClampNeg) ((0 : Int32).toNatClampNeg) ((3 : Int32).toNatClampNeg))) := kw_F_ua F14 (by decide)
        generalize (kw_ua (kw_ui (kw_ui σ 7 5 1) 7 1 m) 24 (va_cpy ((kw_ui (kw_ui σ 7 5 1) 7 1 m).1 27) ((kw_ui (kw_ui σ 7 5 1) 7 1 m).1 24) ((0 : Int32).toNatClampNeg) ((0 : Int32).toNatClampNeg) ((3 : Int32).toNatClampNeg))) = S17 at I15 F16 ⊢
        exact kw_return (pc := 37) (i := 21) rfl rfl ⟨⟨I15, F16⟩, rfl⟩
  | succ n ih =>
    intro σ hI k m t hp0 hp1
    have r_k := kw_rng k
    have r_m := kw_rng m
    have r_t := kw_rng t
    have hF0 : kw_F [7, 24, 27] σ σ := kw_F.rf
    have q_0 : (0 : Int32).toInt = 0 := rfl
    have q_1 : (1 : Int32).toInt = 1 := rfl
    have q_3 : (3 : Int32).toInt = 3 := rfl
    refine kw_Met.of (by decide) rfl tX6_sailFrom (Nat.le_of_ble_eq_true rfl) ?_
    show kw_AW l (3 + (n + 1)) kw_E0 KX mX6_sailFrom (p_X6_sailFrom_7 σ k m t) 0 [(0, .ref 7), (1, .int k), (2, .int m), (3, .int t)] [] σ
    refine kw_iload_n (pc := 0) (i := 0) (k := 1) (n := 1) rfl rfl rfl ?_
    refine kw_aload_n (pc := 1) (i := 1) (k := 0) (n := 0) rfl rfl rfl ?_
    refine kw_get (pc := 2) (i := 2) (v := .int (σ.1 7 6)) rfl rfl rfl lkX6_34 (fun _ => rfl) ?_
    have b18 : 0 ≤ (σ.1 7 6).toInt ∧ (σ.1 7 6).toInt ≤ 3 := hI 7 6
    refine kw_icmp_ge (pc := 5) (i := 3) (tgt := 13) rfl rfl (fun c19 => ?_) (fun c19 => ?_)
    · refine kw_aload_n (pc := 13) (i := 7) (k := 0) (n := 0) rfl rfl rfl ?_
      refine kw_iconst (pc := 14) (i := 8) (v := 1) rfl rfl ?_
      refine kw_puti (pc := 15) (i := 9) (z := 0) rfl rfl rfl lpX6_41 rfl rfl ?_
      have I20 : kw_I bX (kw_ui σ 7 5 1) := kw_I_ui hI (show 0 ≤ (1 : Int32).toInt by omega) (show (1 : Int32).toInt ≤ 1 by omega)
      have F21 : kw_F [7, 24, 27] σ (kw_ui σ 7 5 1) := kw_F_ui hF0 (by decide)
      refine kw_aload_n (pc := 18) (i := 10) (k := 0) (n := 0) rfl rfl rfl ?_
      refine kw_iload_n (pc := 19) (i := 11) (k := 2) (n := 2) rfl rfl rfl ?_
      refine kw_puti (pc := 20) (i := 12) (z := 0) rfl rfl rfl lpX6_78 rfl rfl ?_
      have I22 : kw_I bX (kw_ui (kw_ui σ 7 5 1) 7 1 m) := kw_I_ui I20 (kw_rng m).1 (Int.le_of_lt_add_one (kw_rng m).2)
      have F23 : kw_F [7, 24, 27] σ (kw_ui (kw_ui σ 7 5 1) 7 1 m) := kw_F_ui F21 (by decide)
      refine kw_aload_n (pc := 23) (i := 13) (k := 0) (n := 0) rfl rfl rfl ?_
      refine kw_get (pc := 24) (i := 14) (v := .ref 27) rfl rfl rfl lkX6_24 (fun _ => rfl) ?_
      refine kw_iconst (pc := 27) (i := 15) (v := 0) rfl rfl ?_
      refine kw_aload_n (pc := 28) (i := 16) (k := 0) (n := 0) rfl rfl rfl ?_
      refine kw_get (pc := 29) (i := 17) (v := .ref 24) rfl rfl rfl lkX6_9 (fun _ => rfl) ?_
      refine kw_iconst (pc := 32) (i := 18) (v := 0) rfl rfl ?_
      refine kw_iconst (pc := 33) (i := 19) (v := 3) rfl rfl ?_
      refine kw_copy (pc := 34) (i := 20) (n := 3) (m_ := 3) rfl laX6_81 rfl rfl (by omega) (by omega) (by omega) (by omega) (by omega) (by omega) (Nat.le_of_ble_eq_true rfl) ?_
      have I24 : kw_I bX (kw_ua (kw_ui (kw_ui σ 7 5 1) 7 1 m) 24 (va_cpy ((kw_ui (kw_ui σ 7 5 1) 7 1 m).1 27) ((kw_ui (kw_ui σ 7 5 1) 7 1 m).1 24) ((0 : Int32).toNatClampNeg) ((0 : Int32).toNatClampNeg) ((3 : Int32).toNatClampNeg))) := kw_I_ua I22 (fun j => ⟨(kw_rng _).1, Int.le_of_lt_add_one (kw_rng _).2⟩)
      have F25 : kw_F [7, 24, 27] σ (kw_ua (kw_ui (kw_ui σ 7 5 1) 7 1 m) 24 (va_cpy ((kw_ui (kw_ui σ 7 5 1) 7 1 m).1 27) ((kw_ui (kw_ui σ 7 5 1) 7 1 m).1 24) ((0 : Int32).toNatClampNeg) ((0 : Int32).toNatClampNeg) ((3 : Int32).toNatClampNeg))) := kw_F_ua F23 (by decide)
      generalize (kw_ua (kw_ui (kw_ui σ 7 5 1) 7 1 m) 24 (va_cpy ((kw_ui (kw_ui σ 7 5 1) 7 1 m).1 27) ((kw_ui (kw_ui σ 7 5 1) 7 1 m).1 24) ((0 : Int32).toNatClampNeg) ((0 : Int32).toNatClampNeg) ((3 : Int32).toNatClampNeg))) = S26 at I24 F25 ⊢
      exact kw_return (pc := 37) (i := 21) rfl rfl ⟨⟨I24, F25⟩, rfl⟩
    · refine kw_iload_n (pc := 8) (i := 4) (k := 1) (n := 1) rfl rfl rfl ?_
      refine kw_iconst (pc := 9) (i := 5) (v := 3) rfl rfl ?_
      refine kw_icmp_lt (pc := 10) (i := 6) (tgt := 38) rfl rfl (fun c27 => ?_) (fun c27 => ?_)
      · refine kw_aload_n (pc := 38) (i := 22) (k := 0) (n := 0) rfl rfl rfl ?_
        refine kw_get (pc := 39) (i := 23) (v := .ref 25) rfl rfl rfl lkX6_17 (fun _ => rfl) ?_
        refine kw_iload_n (pc := 42) (i := 24) (k := 1) (n := 1) rfl rfl rfl ?_
        have w28 : k.toInt = 0 ∨ k.toInt = 1 ∨ k.toInt = 2 := by omega
        rcases w28 with w28 | w28 | w28
        · have e_w28 : k.toNatClampNeg = 0 := by have := kw_clampI (x := k) (by omega); omega
          refine kw_aald (pc := 43) (i := 25) (b := 52) rfl rfl (by decide) (by omega) (by rw [e_w28]; rfl) ?_
          refine kw_astore (pc := 44) (i := 26) (n := 4) (lv' := [(4, .ref 52), (0, .ref 7), (1, .int k), (2, .int m), (3, .int t)]) rfl (by decide) rfl ?_
          refine kw_iconst (pc := 46) (i := 27) (v := 0) rfl rfl ?_
          refine kw_istore (pc := 47) (i := 28) (n := 5) (lv' := [(5, .int 0), (4, .ref 52), (0, .ref 7), (1, .int k), (2, .int m), (3, .int t)]) rfl (by decide) rfl ?_
          have L33 : ∀ (n37 : Nat) (x29 : Int32) (S30 : kw_S), kw_I bX S30 → kw_F [7, 24, 27] σ S30 → 0 ≤ x29.toInt → ((σ.1 52 3).toInt - x29.toInt).toNat < n37 → kw_AW l (3 + (n + 1)) kw_E0 KX mX6_sailFrom (p_X6_sailFrom_7 σ k m t) 49 [(5, .int x29), (4, .ref 52), (0, .ref 7), (1, .int k), (2, .int m), (3, .int t)] [] S30 := by
            intro n37
            induction n37 with
            | zero => intro x29 S30 I31 F32 v35 m36; exact absurd m36 (Nat.not_lt_zero _)
            | succ n37 ih34 =>
              intro x29 S30 I31 F32 v35 m36
              have r_x29 := kw_rng x29
              have w_f := congrArg Int32.toInt (kw_F.at (a := 52) (j := 3) F32 (by decide))
              refine kw_iload (pc := 49) (i := 29) (k := 0) (n := 5) rfl rfl ?_
              refine kw_aload (pc := 51) (i := 30) (k := 1) (n := 4) rfl rfl ?_
              refine kw_get (pc := 53) (i := 31) (v := .int (S30.1 52 3)) rfl rfl rfl lkX6_87 (fun _ => rfl) ?_
              have b38 := kw_rng (S30.1 52 3)
              refine kw_icmp_ge (pc := 56) (i := 32) (tgt := 156) rfl rfl (fun c39 => ?_) (fun c39 => ?_)
              · exact kw_return (pc := 156) (i := 84) rfl rfl ⟨⟨I31, F32⟩, rfl⟩
              · refine kw_iload_n (pc := 59) (i := 33) (k := 4) (n := 2) rfl rfl rfl ?_
                refine kw_aload (pc := 60) (i := 34) (k := 1) (n := 4) rfl rfl ?_
                refine kw_iload (pc := 62) (i := 35) (k := 0) (n := 5) rfl rfl ?_
                refine kw_callV (pc := 64) (i := 36) (Y := mX0_milesOf) (a := 52) (As := [.int x29]) (st := [.int m]) kw_hE rfl rfl lvX6_90 arX0_milesOf (c_X0_milesOf_52 l S30 I31 x29 ) (by omega) (Nat.le_of_ble_eq_true rfl) rfl (fun v S41 p40 => ?_)
                obtain ⟨e43, z42, rfl⟩ := p40
                rw [e43]
                have r_z42 := kw_rng z42
                show kw_AW l (3 + (n + 1)) kw_E0 KX mX6_sailFrom (p_X6_sailFrom_7 σ k m t) 67 [(5, .int x29), (4, .ref 52), (0, .ref 7), (1, .int k), (2, .int m), (3, .int t)] [.int z42, .int m] S30
                refine kw_iadd (pc := 67) (i := 37) rfl (fun z44 e_z44 t_z44 => ?_)
                refine kw_istore (pc := 68) (i := 38) (n := 6) (lv' := [(6, .int z44), (5, .int x29), (4, .ref 52), (0, .ref 7), (1, .int k), (2, .int m), (3, .int t)]) rfl (by decide) rfl ?_
                refine kw_aload_n (pc := 70) (i := 39) (k := 3) (n := 0) rfl rfl rfl ?_
                refine kw_get (pc := 71) (i := 40) (v := .int (S30.1 7 5)) rfl rfl rfl lkX6_41 (fun _ => rfl) ?_
                have b45 : 0 ≤ (S30.1 7 5).toInt ∧ (S30.1 7 5).toInt ≤ 1 := I31 7 5
                refine kw_if_eq (pc := 74) (i := 41) (tgt := 98) rfl rfl (fun c46 => ?_) (fun c46 => ?_)
                · refine kw_iload_n (pc := 98) (i := 54) (k := 6) (n := 3) rfl rfl rfl ?_
                  refine kw_aload (pc := 99) (i := 55) (k := 2) (n := 4) rfl rfl ?_
                  refine kw_iload (pc := 101) (i := 56) (k := 1) (n := 5) rfl rfl ?_
                  refine kw_callV (pc := 103) (i := 57) (Y := mX0_turnBy) (a := 52) (As := [.int x29]) (st := [.int t]) kw_hE rfl rfl lvX6_93 arX0_turnBy (c_X0_turnBy_52 l S30 I31 x29 ) (by omega) (Nat.le_of_ble_eq_true rfl) rfl (fun v S48 p47 => ?_)
                  obtain ⟨e50, z49, rfl⟩ := p47
                  rw [e50]
                  have r_z49 := kw_rng z49
                  show kw_AW l (3 + (n + 1)) kw_E0 KX mX6_sailFrom (p_X6_sailFrom_7 σ k m t) 106 [(6, .int z44), (5, .int x29), (4, .ref 52), (0, .ref 7), (1, .int k), (2, .int m), (3, .int t)] [.int z49, .int t] S30
                  refine kw_iadd (pc := 106) (i := 58) rfl (fun z51 e_z51 t_z51 => ?_)
                  refine kw_istore (pc := 107) (i := 59) (n := 7) (lv' := [(7, .int z51), (6, .int z44), (5, .int x29), (4, .ref 52), (0, .ref 7), (1, .int k), (2, .int m), (3, .int t)]) rfl (by decide) rfl ?_
                  refine kw_iload (pc := 109) (i := 60) (k := 0) (n := 7) rfl rfl ?_
                  refine kw_aload_n (pc := 111) (i := 61) (k := 4) (n := 0) rfl rfl rfl ?_
                  refine kw_get (pc := 112) (i := 62) (v := .int (S30.1 7 7)) rfl rfl rfl lkX6_38 (fun _ => rfl) ?_
                  have b52 := kw_rng (S30.1 7 7)
                  refine kw_icmp_gt (pc := 115) (i := 63) (tgt := 150) rfl rfl (fun c53 => ?_) (fun c53 => ?_)
                  · refine kw_iinc' (pc := 150) (i := 82) (k := 2) (fun z => [(5, .int z), (7, .int z51), (6, .int z44), (4, .ref 52), (0, .ref 7), (1, .int k), (2, .int m), (3, .int t)]) rfl rfl (by decide) rfl (fun _ => rfl) (fun z54 e_z54 t_z54 => ?_)
                    refine kw_goto (pc := 153) (i := 83) (tgt := 49) rfl rfl ?_
                    refine kw_sub (lv' := [(5, .int z54), (4, .ref 52), (0, .ref 7), (1, .int k), (2, .int m), (3, .int t)]) [0, 3, 4, 5, 6, 7] rfl ?_
                    exact ih34 z54 S30 I31 F32 (by omega) (by omega)
                  · refine kw_iload (pc := 118) (i := 64) (k := 0) (n := 7) rfl rfl ?_
                    refine kw_aload_n (pc := 120) (i := 65) (k := 4) (n := 0) rfl rfl rfl ?_
                    refine kw_get (pc := 121) (i := 66) (v := .int (S30.1 7 7)) rfl rfl rfl lkX6_38 (fun _ => rfl) ?_
                    refine kw_ineg (pc := 124) (i := 67) rfl (fun z55 e_z55 t_z55 => ?_)
                    refine kw_icmp_ge (pc := 125) (i := 68) (tgt := 131) rfl rfl (fun c56 => ?_) (fun c56 => ?_)
                    · refine kw_aload_n (pc := 131) (i := 70) (k := 4) (n := 0) rfl rfl rfl ?_
                      refine kw_get (pc := 132) (i := 71) (v := .ref 27) rfl rfl rfl lkX6_24 (fun _ => rfl) ?_
                      refine kw_iload_n (pc := 135) (i := 72) (k := 5) (n := 1) rfl rfl rfl ?_
                      refine kw_iload (pc := 136) (i := 73) (k := 2) (n := 5) rfl rfl ?_
                      refine kw_iast (pc := 138) (i := 74) (n := 3) rfl rfl (by omega) (by omega) ?_
                      have I57 : kw_I bX (kw_ui S30 27 k.toNatClampNeg x29) := kw_I_ui I31 (kw_rng x29).1 (Int.le_of_lt_add_one (kw_rng x29).2)
                      have F58 : kw_F [7, 24, 27] σ (kw_ui S30 27 k.toNatClampNeg x29) := kw_F_ui F32 (by decide)
                      refine kw_aload_n (pc := 139) (i := 75) (k := 4) (n := 0) rfl rfl rfl ?_
                      refine kw_iload_n (pc := 140) (i := 76) (k := 5) (n := 1) rfl rfl rfl ?_
                      refine kw_iconst (pc := 141) (i := 77) (v := 1) rfl rfl ?_
                      refine kw_iadd (pc := 142) (i := 78) rfl (fun z59 e_z59 t_z59 => ?_)
                      refine kw_iload (pc := 143) (i := 79) (k := 1) (n := 6) rfl rfl ?_
                      refine kw_iload (pc := 145) (i := 80) (k := 0) (n := 7) rfl rfl ?_
                      refine kw_callV (pc := 147) (i := 81) (Y := mX6_sailFrom) (a := 7) (As := [.int z59, .int z44, .int z51]) (st := []) kw_hE rfl rfl lvX6_74 arX6_sailFrom (ih (kw_ui S30 27 k.toNatClampNeg x29) I57 z59 z44 z51 (by omega) (by omega)) (by omega) (Nat.le_of_ble_eq_true rfl) rfl (fun v S61 p60 => ?_)
                      obtain ⟨⟨I62, F63⟩, rfl⟩ := p60
                      have F64 : kw_F [7, 24, 27] σ S61 := kw_F.tr F58 F63 (by decide)
                      show kw_AW l (3 + (n + 1)) kw_E0 KX mX6_sailFrom (p_X6_sailFrom_7 σ k m t) 150 [(7, .int z51), (6, .int z44), (5, .int x29), (4, .ref 52), (0, .ref 7), (1, .int k), (2, .int m), (3, .int t)] [] S61
                      refine kw_iinc' (pc := 150) (i := 82) (k := 2) (fun z => [(5, .int z), (7, .int z51), (6, .int z44), (4, .ref 52), (0, .ref 7), (1, .int k), (2, .int m), (3, .int t)]) rfl rfl (by decide) rfl (fun _ => rfl) (fun z65 e_z65 t_z65 => ?_)
                      refine kw_goto (pc := 153) (i := 83) (tgt := 49) rfl rfl ?_
                      refine kw_sub (lv' := [(5, .int z65), (4, .ref 52), (0, .ref 7), (1, .int k), (2, .int m), (3, .int t)]) [0, 3, 4, 5, 6, 7] rfl ?_
                      exact ih34 z65 S61 I62 F64 (by omega) (by omega)
                    · refine kw_goto (pc := 128) (i := 69) (tgt := 150) rfl rfl ?_
                      refine kw_iinc' (pc := 150) (i := 82) (k := 2) (fun z => [(5, .int z), (7, .int z51), (6, .int z44), (4, .ref 52), (0, .ref 7), (1, .int k), (2, .int m), (3, .int t)]) rfl rfl (by decide) rfl (fun _ => rfl) (fun z66 e_z66 t_z66 => ?_)
                      refine kw_goto (pc := 153) (i := 83) (tgt := 49) rfl rfl ?_
                      refine kw_sub (lv' := [(5, .int z66), (4, .ref 52), (0, .ref 7), (1, .int k), (2, .int m), (3, .int t)]) [0, 3, 4, 5, 6, 7] rfl ?_
                      exact ih34 z66 S30 I31 F32 (by omega) (by omega)
                · refine kw_iload (pc := 77) (i := 42) (k := 0) (n := 6) rfl rfl ?_
                  refine kw_aload_n (pc := 79) (i := 43) (k := 3) (n := 0) rfl rfl rfl ?_
                  refine kw_get (pc := 80) (i := 44) (v := .ref 26) rfl rfl rfl lkX6_21 (fun _ => rfl) ?_
                  refine kw_iload_n (pc := 83) (i := 45) (k := 4) (n := 1) rfl rfl rfl ?_
                  refine kw_iconst (pc := 84) (i := 46) (v := 1) rfl rfl ?_
                  refine kw_iadd (pc := 85) (i := 47) rfl (fun z67 e_z67 t_z67 => ?_)
                  refine kw_iald (pc := 86) (i := 48) (n := 4) rfl rfl (by omega) (by omega) (fun z68 e_z68 => ?_)
                  have t_z68 := congrArg Int32.toInt e_z68
                  have r_z68 := kw_rng z68
                  refine kw_iadd (pc := 87) (i := 49) rfl (fun z69 e_z69 t_z69 => ?_)
                  refine kw_aload_n (pc := 88) (i := 50) (k := 3) (n := 0) rfl rfl rfl ?_
                  refine kw_get (pc := 89) (i := 51) (v := .int (S30.1 7 1)) rfl rfl rfl lkX6_78 (fun _ => rfl) ?_
                  have b70 := kw_rng (S30.1 7 1)
                  refine kw_icmp_gt (pc := 92) (i := 52) (tgt := 98) rfl rfl (fun c71 => ?_) (fun c71 => ?_)
                  · refine kw_iload_n (pc := 98) (i := 54) (k := 6) (n := 3) rfl rfl rfl ?_
                    refine kw_aload (pc := 99) (i := 55) (k := 2) (n := 4) rfl rfl ?_
                    refine kw_iload (pc := 101) (i := 56) (k := 1) (n := 5) rfl rfl ?_
                    refine kw_callV (pc := 103) (i := 57) (Y := mX0_turnBy) (a := 52) (As := [.int x29]) (st := [.int t]) kw_hE rfl rfl lvX6_93 arX0_turnBy (c_X0_turnBy_52 l S30 I31 x29 ) (by omega) (Nat.le_of_ble_eq_true rfl) rfl (fun v S73 p72 => ?_)
                    obtain ⟨e75, z74, rfl⟩ := p72
                    rw [e75]
                    have r_z74 := kw_rng z74
                    show kw_AW l (3 + (n + 1)) kw_E0 KX mX6_sailFrom (p_X6_sailFrom_7 σ k m t) 106 [(6, .int z44), (5, .int x29), (4, .ref 52), (0, .ref 7), (1, .int k), (2, .int m), (3, .int t)] [.int z74, .int t] S30
                    refine kw_iadd (pc := 106) (i := 58) rfl (fun z76 e_z76 t_z76 => ?_)
                    refine kw_istore (pc := 107) (i := 59) (n := 7) (lv' := [(7, .int z76), (6, .int z44), (5, .int x29), (4, .ref 52), (0, .ref 7), (1, .int k), (2, .int m), (3, .int t)]) rfl (by decide) rfl ?_
                    refine kw_iload (pc := 109) (i := 60) (k := 0) (n := 7) rfl rfl ?_
                    refine kw_aload_n (pc := 111) (i := 61) (k := 4) (n := 0) rfl rfl rfl ?_
                    refine kw_get (pc := 112) (i := 62) (v := .int (S30.1 7 7)) rfl rfl rfl lkX6_38 (fun _ => rfl) ?_
                    have b77 := kw_rng (S30.1 7 7)
                    refine kw_icmp_gt (pc := 115) (i := 63) (tgt := 150) rfl rfl (fun c78 => ?_) (fun c78 => ?_)
                    · refine kw_iinc' (pc := 150) (i := 82) (k := 2) (fun z => [(5, .int z), (7, .int z76), (6, .int z44), (4, .ref 52), (0, .ref 7), (1, .int k), (2, .int m), (3, .int t)]) rfl rfl (by decide) rfl (fun _ => rfl) (fun z79 e_z79 t_z79 => ?_)
                      refine kw_goto (pc := 153) (i := 83) (tgt := 49) rfl rfl ?_
                      refine kw_sub (lv' := [(5, .int z79), (4, .ref 52), (0, .ref 7), (1, .int k), (2, .int m), (3, .int t)]) [0, 3, 4, 5, 6, 7] rfl ?_
                      exact ih34 z79 S30 I31 F32 (by omega) (by omega)
                    · refine kw_iload (pc := 118) (i := 64) (k := 0) (n := 7) rfl rfl ?_
                      refine kw_aload_n (pc := 120) (i := 65) (k := 4) (n := 0) rfl rfl rfl ?_
                      refine kw_get (pc := 121) (i := 66) (v := .int (S30.1 7 7)) rfl rfl rfl lkX6_38 (fun _ => rfl) ?_
                      refine kw_ineg (pc := 124) (i := 67) rfl (fun z80 e_z80 t_z80 => ?_)
                      refine kw_icmp_ge (pc := 125) (i := 68) (tgt := 131) rfl rfl (fun c81 => ?_) (fun c81 => ?_)
                      · refine kw_aload_n (pc := 131) (i := 70) (k := 4) (n := 0) rfl rfl rfl ?_
                        refine kw_get (pc := 132) (i := 71) (v := .ref 27) rfl rfl rfl lkX6_24 (fun _ => rfl) ?_
                        refine kw_iload_n (pc := 135) (i := 72) (k := 5) (n := 1) rfl rfl rfl ?_
                        refine kw_iload (pc := 136) (i := 73) (k := 2) (n := 5) rfl rfl ?_
                        refine kw_iast (pc := 138) (i := 74) (n := 3) rfl rfl (by omega) (by omega) ?_
                        have I82 : kw_I bX (kw_ui S30 27 k.toNatClampNeg x29) := kw_I_ui I31 (kw_rng x29).1 (Int.le_of_lt_add_one (kw_rng x29).2)
                        have F83 : kw_F [7, 24, 27] σ (kw_ui S30 27 k.toNatClampNeg x29) := kw_F_ui F32 (by decide)
                        refine kw_aload_n (pc := 139) (i := 75) (k := 4) (n := 0) rfl rfl rfl ?_
                        refine kw_iload_n (pc := 140) (i := 76) (k := 5) (n := 1) rfl rfl rfl ?_
                        refine kw_iconst (pc := 141) (i := 77) (v := 1) rfl rfl ?_
                        refine kw_iadd (pc := 142) (i := 78) rfl (fun z84 e_z84 t_z84 => ?_)
                        refine kw_iload (pc := 143) (i := 79) (k := 1) (n := 6) rfl rfl ?_
                        refine kw_iload (pc := 145) (i := 80) (k := 0) (n := 7) rfl rfl ?_
                        refine kw_callV (pc := 147) (i := 81) (Y := mX6_sailFrom) (a := 7) (As := [.int z84, .int z44, .int z76]) (st := []) kw_hE rfl rfl lvX6_74 arX6_sailFrom (ih (kw_ui S30 27 k.toNatClampNeg x29) I82 z84 z44 z76 (by omega) (by omega)) (by omega) (Nat.le_of_ble_eq_true rfl) rfl (fun v S86 p85 => ?_)
                        obtain ⟨⟨I87, F88⟩, rfl⟩ := p85
                        have F89 : kw_F [7, 24, 27] σ S86 := kw_F.tr F83 F88 (by decide)
                        show kw_AW l (3 + (n + 1)) kw_E0 KX mX6_sailFrom (p_X6_sailFrom_7 σ k m t) 150 [(7, .int z76), (6, .int z44), (5, .int x29), (4, .ref 52), (0, .ref 7), (1, .int k), (2, .int m), (3, .int t)] [] S86
                        refine kw_iinc' (pc := 150) (i := 82) (k := 2) (fun z => [(5, .int z), (7, .int z76), (6, .int z44), (4, .ref 52), (0, .ref 7), (1, .int k), (2, .int m), (3, .int t)]) rfl rfl (by decide) rfl (fun _ => rfl) (fun z90 e_z90 t_z90 => ?_)
                        refine kw_goto (pc := 153) (i := 83) (tgt := 49) rfl rfl ?_
                        refine kw_sub (lv' := [(5, .int z90), (4, .ref 52), (0, .ref 7), (1, .int k), (2, .int m), (3, .int t)]) [0, 3, 4, 5, 6, 7] rfl ?_
                        exact ih34 z90 S86 I87 F89 (by omega) (by omega)
                      · refine kw_goto (pc := 128) (i := 69) (tgt := 150) rfl rfl ?_
                        refine kw_iinc' (pc := 150) (i := 82) (k := 2) (fun z => [(5, .int z), (7, .int z76), (6, .int z44), (4, .ref 52), (0, .ref 7), (1, .int k), (2, .int m), (3, .int t)]) rfl rfl (by decide) rfl (fun _ => rfl) (fun z91 e_z91 t_z91 => ?_)
                        refine kw_goto (pc := 153) (i := 83) (tgt := 49) rfl rfl ?_
                        refine kw_sub (lv' := [(5, .int z91), (4, .ref 52), (0, .ref 7), (1, .int k), (2, .int m), (3, .int t)]) [0, 3, 4, 5, 6, 7] rfl ?_
                        exact ih34 z91 S30 I31 F32 (by omega) (by omega)
                  · refine kw_goto (pc := 95) (i := 53) (tgt := 150) rfl rfl ?_
                    refine kw_iinc' (pc := 150) (i := 82) (k := 1) (fun z => [(5, .int z), (6, .int z44), (4, .ref 52), (0, .ref 7), (1, .int k), (2, .int m), (3, .int t)]) rfl rfl (by decide) rfl (fun _ => rfl) (fun z92 e_z92 t_z92 => ?_)
                    refine kw_goto (pc := 153) (i := 83) (tgt := 49) rfl rfl ?_
                    refine kw_sub (lv' := [(5, .int z92), (4, .ref 52), (0, .ref 7), (1, .int k), (2, .int m), (3, .int t)]) [0, 2, 3, 4, 5, 6] rfl ?_
                    exact ih34 z92 S30 I31 F32 (by omega) (by omega)
          exact L33 _ 0 σ hI hF0 (by omega) (Nat.lt_succ_self _)
        · have e_w28 : k.toNatClampNeg = 1 := by have := kw_clampI (x := k) (by omega); omega
          refine kw_aald (pc := 43) (i := 25) (b := 53) rfl rfl (by decide) (by omega) (by rw [e_w28]; rfl) ?_
          refine kw_astore (pc := 44) (i := 26) (n := 4) (lv' := [(4, .ref 53), (0, .ref 7), (1, .int k), (2, .int m), (3, .int t)]) rfl (by decide) rfl ?_
          refine kw_iconst (pc := 46) (i := 27) (v := 0) rfl rfl ?_
          refine kw_istore (pc := 47) (i := 28) (n := 5) (lv' := [(5, .int 0), (4, .ref 53), (0, .ref 7), (1, .int k), (2, .int m), (3, .int t)]) rfl (by decide) rfl ?_
          have L97 : ∀ (n101 : Nat) (x93 : Int32) (S94 : kw_S), kw_I bX S94 → kw_F [7, 24, 27] σ S94 → 0 ≤ x93.toInt → ((σ.1 53 3).toInt - x93.toInt).toNat < n101 → kw_AW l (3 + (n + 1)) kw_E0 KX mX6_sailFrom (p_X6_sailFrom_7 σ k m t) 49 [(5, .int x93), (4, .ref 53), (0, .ref 7), (1, .int k), (2, .int m), (3, .int t)] [] S94 := by
            intro n101
            induction n101 with
            | zero => intro x93 S94 I95 F96 v99 m100; exact absurd m100 (Nat.not_lt_zero _)
            | succ n101 ih98 =>
              intro x93 S94 I95 F96 v99 m100
              have r_x93 := kw_rng x93
              have w_f := congrArg Int32.toInt (kw_F.at (a := 53) (j := 3) F96 (by decide))
              refine kw_iload (pc := 49) (i := 29) (k := 0) (n := 5) rfl rfl ?_
              refine kw_aload (pc := 51) (i := 30) (k := 1) (n := 4) rfl rfl ?_
              refine kw_get (pc := 53) (i := 31) (v := .int (S94.1 53 3)) rfl rfl rfl lkX6_87 (fun _ => rfl) ?_
              have b102 := kw_rng (S94.1 53 3)
              refine kw_icmp_ge (pc := 56) (i := 32) (tgt := 156) rfl rfl (fun c103 => ?_) (fun c103 => ?_)
              · exact kw_return (pc := 156) (i := 84) rfl rfl ⟨⟨I95, F96⟩, rfl⟩
              · refine kw_iload_n (pc := 59) (i := 33) (k := 4) (n := 2) rfl rfl rfl ?_
                refine kw_aload (pc := 60) (i := 34) (k := 1) (n := 4) rfl rfl ?_
                refine kw_iload (pc := 62) (i := 35) (k := 0) (n := 5) rfl rfl ?_
                refine kw_callV (pc := 64) (i := 36) (Y := mX0_milesOf) (a := 53) (As := [.int x93]) (st := [.int m]) kw_hE rfl rfl lvX6_90 arX0_milesOf (c_X0_milesOf_53 l S94 I95 x93 ) (by omega) (Nat.le_of_ble_eq_true rfl) rfl (fun v S105 p104 => ?_)
                obtain ⟨e107, z106, rfl⟩ := p104
                rw [e107]
                have r_z106 := kw_rng z106
                show kw_AW l (3 + (n + 1)) kw_E0 KX mX6_sailFrom (p_X6_sailFrom_7 σ k m t) 67 [(5, .int x93), (4, .ref 53), (0, .ref 7), (1, .int k), (2, .int m), (3, .int t)] [.int z106, .int m] S94
                refine kw_iadd (pc := 67) (i := 37) rfl (fun z108 e_z108 t_z108 => ?_)
                refine kw_istore (pc := 68) (i := 38) (n := 6) (lv' := [(6, .int z108), (5, .int x93), (4, .ref 53), (0, .ref 7), (1, .int k), (2, .int m), (3, .int t)]) rfl (by decide) rfl ?_
                refine kw_aload_n (pc := 70) (i := 39) (k := 3) (n := 0) rfl rfl rfl ?_
                refine kw_get (pc := 71) (i := 40) (v := .int (S94.1 7 5)) rfl rfl rfl lkX6_41 (fun _ => rfl) ?_
                have b109 : 0 ≤ (S94.1 7 5).toInt ∧ (S94.1 7 5).toInt ≤ 1 := I95 7 5
                refine kw_if_eq (pc := 74) (i := 41) (tgt := 98) rfl rfl (fun c110 => ?_) (fun c110 => ?_)
                · refine kw_iload_n (pc := 98) (i := 54) (k := 6) (n := 3) rfl rfl rfl ?_
                  refine kw_aload (pc := 99) (i := 55) (k := 2) (n := 4) rfl rfl ?_
                  refine kw_iload (pc := 101) (i := 56) (k := 1) (n := 5) rfl rfl ?_
                  refine kw_callV (pc := 103) (i := 57) (Y := mX0_turnBy) (a := 53) (As := [.int x93]) (st := [.int t]) kw_hE rfl rfl lvX6_93 arX0_turnBy (c_X0_turnBy_53 l S94 I95 x93 ) (by omega) (Nat.le_of_ble_eq_true rfl) rfl (fun v S112 p111 => ?_)
                  obtain ⟨e114, z113, rfl⟩ := p111
                  rw [e114]
                  have r_z113 := kw_rng z113
                  show kw_AW l (3 + (n + 1)) kw_E0 KX mX6_sailFrom (p_X6_sailFrom_7 σ k m t) 106 [(6, .int z108), (5, .int x93), (4, .ref 53), (0, .ref 7), (1, .int k), (2, .int m), (3, .int t)] [.int z113, .int t] S94
                  refine kw_iadd (pc := 106) (i := 58) rfl (fun z115 e_z115 t_z115 => ?_)
                  refine kw_istore (pc := 107) (i := 59) (n := 7) (lv' := [(7, .int z115), (6, .int z108), (5, .int x93), (4, .ref 53), (0, .ref 7), (1, .int k), (2, .int m), (3, .int t)]) rfl (by decide) rfl ?_
                  refine kw_iload (pc := 109) (i := 60) (k := 0) (n := 7) rfl rfl ?_
                  refine kw_aload_n (pc := 111) (i := 61) (k := 4) (n := 0) rfl rfl rfl ?_
                  refine kw_get (pc := 112) (i := 62) (v := .int (S94.1 7 7)) rfl rfl rfl lkX6_38 (fun _ => rfl) ?_
                  have b116 := kw_rng (S94.1 7 7)
                  refine kw_icmp_gt (pc := 115) (i := 63) (tgt := 150) rfl rfl (fun c117 => ?_) (fun c117 => ?_)
                  · refine kw_iinc' (pc := 150) (i := 82) (k := 2) (fun z => [(5, .int z), (7, .int z115), (6, .int z108), (4, .ref 53), (0, .ref 7), (1, .int k), (2, .int m), (3, .int t)]) rfl rfl (by decide) rfl (fun _ => rfl) (fun z118 e_z118 t_z118 => ?_)
                    refine kw_goto (pc := 153) (i := 83) (tgt := 49) rfl rfl ?_
                    refine kw_sub (lv' := [(5, .int z118), (4, .ref 53), (0, .ref 7), (1, .int k), (2, .int m), (3, .int t)]) [0, 3, 4, 5, 6, 7] rfl ?_
                    exact ih98 z118 S94 I95 F96 (by omega) (by omega)
                  · refine kw_iload (pc := 118) (i := 64) (k := 0) (n := 7) rfl rfl ?_
                    refine kw_aload_n (pc := 120) (i := 65) (k := 4) (n := 0) rfl rfl rfl ?_
                    refine kw_get (pc := 121) (i := 66) (v := .int (S94.1 7 7)) rfl rfl rfl lkX6_38 (fun _ => rfl) ?_
                    refine kw_ineg (pc := 124) (i := 67) rfl (fun z119 e_z119 t_z119 => ?_)
                    refine kw_icmp_ge (pc := 125) (i := 68) (tgt := 131) rfl rfl (fun c120 => ?_) (fun c120 => ?_)
                    · refine kw_aload_n (pc := 131) (i := 70) (k := 4) (n := 0) rfl rfl rfl ?_
                      refine kw_get (pc := 132) (i := 71) (v := .ref 27) rfl rfl rfl lkX6_24 (fun _ => rfl) ?_
                      refine kw_iload_n (pc := 135) (i := 72) (k := 5) (n := 1) rfl rfl rfl ?_
                      refine kw_iload (pc := 136) (i := 73) (k := 2) (n := 5) rfl rfl ?_
                      refine kw_iast (pc := 138) (i := 74) (n := 3) rfl rfl (by omega) (by omega) ?_
                      have I121 : kw_I bX (kw_ui S94 27 k.toNatClampNeg x93) := kw_I_ui I95 (kw_rng x93).1 (Int.le_of_lt_add_one (kw_rng x93).2)
                      have F122 : kw_F [7, 24, 27] σ (kw_ui S94 27 k.toNatClampNeg x93) := kw_F_ui F96 (by decide)
                      refine kw_aload_n (pc := 139) (i := 75) (k := 4) (n := 0) rfl rfl rfl ?_
                      refine kw_iload_n (pc := 140) (i := 76) (k := 5) (n := 1) rfl rfl rfl ?_
                      refine kw_iconst (pc := 141) (i := 77) (v := 1) rfl rfl ?_
                      refine kw_iadd (pc := 142) (i := 78) rfl (fun z123 e_z123 t_z123 => ?_)
                      refine kw_iload (pc := 143) (i := 79) (k := 1) (n := 6) rfl rfl ?_
                      refine kw_iload (pc := 145) (i := 80) (k := 0) (n := 7) rfl rfl ?_
                      refine kw_callV (pc := 147) (i := 81) (Y := mX6_sailFrom) (a := 7) (As := [.int z123, .int z108, .int z115]) (st := []) kw_hE rfl rfl lvX6_74 arX6_sailFrom (ih (kw_ui S94 27 k.toNatClampNeg x93) I121 z123 z108 z115 (by omega) (by omega)) (by omega) (Nat.le_of_ble_eq_true rfl) rfl (fun v S125 p124 => ?_)
                      obtain ⟨⟨I126, F127⟩, rfl⟩ := p124
                      have F128 : kw_F [7, 24, 27] σ S125 := kw_F.tr F122 F127 (by decide)
                      show kw_AW l (3 + (n + 1)) kw_E0 KX mX6_sailFrom (p_X6_sailFrom_7 σ k m t) 150 [(7, .int z115), (6, .int z108), (5, .int x93), (4, .ref 53), (0, .ref 7), (1, .int k), (2, .int m), (3, .int t)] [] S125
                      refine kw_iinc' (pc := 150) (i := 82) (k := 2) (fun z => [(5, .int z), (7, .int z115), (6, .int z108), (4, .ref 53), (0, .ref 7), (1, .int k), (2, .int m), (3, .int t)]) rfl rfl (by decide) rfl (fun _ => rfl) (fun z129 e_z129 t_z129 => ?_)
                      refine kw_goto (pc := 153) (i := 83) (tgt := 49) rfl rfl ?_
                      refine kw_sub (lv' := [(5, .int z129), (4, .ref 53), (0, .ref 7), (1, .int k), (2, .int m), (3, .int t)]) [0, 3, 4, 5, 6, 7] rfl ?_
                      exact ih98 z129 S125 I126 F128 (by omega) (by omega)
                    · refine kw_goto (pc := 128) (i := 69) (tgt := 150) rfl rfl ?_
                      refine kw_iinc' (pc := 150) (i := 82) (k := 2) (fun z => [(5, .int z), (7, .int z115), (6, .int z108), (4, .ref 53), (0, .ref 7), (1, .int k), (2, .int m), (3, .int t)]) rfl rfl (by decide) rfl (fun _ => rfl) (fun z130 e_z130 t_z130 => ?_)
                      refine kw_goto (pc := 153) (i := 83) (tgt := 49) rfl rfl ?_
                      refine kw_sub (lv' := [(5, .int z130), (4, .ref 53), (0, .ref 7), (1, .int k), (2, .int m), (3, .int t)]) [0, 3, 4, 5, 6, 7] rfl ?_
                      exact ih98 z130 S94 I95 F96 (by omega) (by omega)
                · refine kw_iload (pc := 77) (i := 42) (k := 0) (n := 6) rfl rfl ?_
                  refine kw_aload_n (pc := 79) (i := 43) (k := 3) (n := 0) rfl rfl rfl ?_
                  refine kw_get (pc := 80) (i := 44) (v := .ref 26) rfl rfl rfl lkX6_21 (fun _ => rfl) ?_
                  refine kw_iload_n (pc := 83) (i := 45) (k := 4) (n := 1) rfl rfl rfl ?_
                  refine kw_iconst (pc := 84) (i := 46) (v := 1) rfl rfl ?_
                  refine kw_iadd (pc := 85) (i := 47) rfl (fun z131 e_z131 t_z131 => ?_)
                  refine kw_iald (pc := 86) (i := 48) (n := 4) rfl rfl (by omega) (by omega) (fun z132 e_z132 => ?_)
                  have t_z132 := congrArg Int32.toInt e_z132
                  have r_z132 := kw_rng z132
                  refine kw_iadd (pc := 87) (i := 49) rfl (fun z133 e_z133 t_z133 => ?_)
                  refine kw_aload_n (pc := 88) (i := 50) (k := 3) (n := 0) rfl rfl rfl ?_
                  refine kw_get (pc := 89) (i := 51) (v := .int (S94.1 7 1)) rfl rfl rfl lkX6_78 (fun _ => rfl) ?_
                  have b134 := kw_rng (S94.1 7 1)
                  refine kw_icmp_gt (pc := 92) (i := 52) (tgt := 98) rfl rfl (fun c135 => ?_) (fun c135 => ?_)
                  · refine kw_iload_n (pc := 98) (i := 54) (k := 6) (n := 3) rfl rfl rfl ?_
                    refine kw_aload (pc := 99) (i := 55) (k := 2) (n := 4) rfl rfl ?_
                    refine kw_iload (pc := 101) (i := 56) (k := 1) (n := 5) rfl rfl ?_
                    refine kw_callV (pc := 103) (i := 57) (Y := mX0_turnBy) (a := 53) (As := [.int x93]) (st := [.int t]) kw_hE rfl rfl lvX6_93 arX0_turnBy (c_X0_turnBy_53 l S94 I95 x93 ) (by omega) (Nat.le_of_ble_eq_true rfl) rfl (fun v S137 p136 => ?_)
                    obtain ⟨e139, z138, rfl⟩ := p136
                    rw [e139]
                    have r_z138 := kw_rng z138
                    show kw_AW l (3 + (n + 1)) kw_E0 KX mX6_sailFrom (p_X6_sailFrom_7 σ k m t) 106 [(6, .int z108), (5, .int x93), (4, .ref 53), (0, .ref 7), (1, .int k), (2, .int m), (3, .int t)] [.int z138, .int t] S94
                    refine kw_iadd (pc := 106) (i := 58) rfl (fun z140 e_z140 t_z140 => ?_)
                    refine kw_istore (pc := 107) (i := 59) (n := 7) (lv' := [(7, .int z140), (6, .int z108), (5, .int x93), (4, .ref 53), (0, .ref 7), (1, .int k), (2, .int m), (3, .int t)]) rfl (by decide) rfl ?_
                    refine kw_iload (pc := 109) (i := 60) (k := 0) (n := 7) rfl rfl ?_
                    refine kw_aload_n (pc := 111) (i := 61) (k := 4) (n := 0) rfl rfl rfl ?_
                    refine kw_get (pc := 112) (i := 62) (v := .int (S94.1 7 7)) rfl rfl rfl lkX6_38 (fun _ => rfl) ?_
                    have b141 := kw_rng (S94.1 7 7)
                    refine kw_icmp_gt (pc := 115) (i := 63) (tgt := 150) rfl rfl (fun c142 => ?_) (fun c142 => ?_)
                    · refine kw_iinc' (pc := 150) (i := 82) (k := 2) (fun z => [(5, .int z), (7, .int z140), (6, .int z108), (4, .ref 53), (0, .ref 7), (1, .int k), (2, .int m), (3, .int t)]) rfl rfl (by decide) rfl (fun _ => rfl) (fun z143 e_z143 t_z143 => ?_)
                      refine kw_goto (pc := 153) (i := 83) (tgt := 49) rfl rfl ?_
                      refine kw_sub (lv' := [(5, .int z143), (4, .ref 53), (0, .ref 7), (1, .int k), (2, .int m), (3, .int t)]) [0, 3, 4, 5, 6, 7] rfl ?_
                      exact ih98 z143 S94 I95 F96 (by omega) (by omega)
                    · refine kw_iload (pc := 118) (i := 64) (k := 0) (n := 7) rfl rfl ?_
                      refine kw_aload_n (pc := 120) (i := 65) (k := 4) (n := 0) rfl rfl rfl ?_
                      refine kw_get (pc := 121) (i := 66) (v := .int (S94.1 7 7)) rfl rfl rfl lkX6_38 (fun _ => rfl) ?_
                      refine kw_ineg (pc := 124) (i := 67) rfl (fun z144 e_z144 t_z144 => ?_)
                      refine kw_icmp_ge (pc := 125) (i := 68) (tgt := 131) rfl rfl (fun c145 => ?_) (fun c145 => ?_)
                      · refine kw_aload_n (pc := 131) (i := 70) (k := 4) (n := 0) rfl rfl rfl ?_
                        refine kw_get (pc := 132) (i := 71) (v := .ref 27) rfl rfl rfl lkX6_24 (fun _ => rfl) ?_
                        refine kw_iload_n (pc := 135) (i := 72) (k := 5) (n := 1) rfl rfl rfl ?_
                        refine kw_iload (pc := 136) (i := 73) (k := 2) (n := 5) rfl rfl ?_
                        refine kw_iast (pc := 138) (i := 74) (n := 3) rfl rfl (by omega) (by omega) ?_
                        have I146 : kw_I bX (kw_ui S94 27 k.toNatClampNeg x93) := kw_I_ui I95 (kw_rng x93).1 (Int.le_of_lt_add_one (kw_rng x93).2)
                        have F147 : kw_F [7, 24, 27] σ (kw_ui S94 27 k.toNatClampNeg x93) := kw_F_ui F96 (by decide)
                        refine kw_aload_n (pc := 139) (i := 75) (k := 4) (n := 0) rfl rfl rfl ?_
                        refine kw_iload_n (pc := 140) (i := 76) (k := 5) (n := 1) rfl rfl rfl ?_
                        refine kw_iconst (pc := 141) (i := 77) (v := 1) rfl rfl ?_
                        refine kw_iadd (pc := 142) (i := 78) rfl (fun z148 e_z148 t_z148 => ?_)
                        refine kw_iload (pc := 143) (i := 79) (k := 1) (n := 6) rfl rfl ?_
                        refine kw_iload (pc := 145) (i := 80) (k := 0) (n := 7) rfl rfl ?_
                        refine kw_callV (pc := 147) (i := 81) (Y := mX6_sailFrom) (a := 7) (As := [.int z148, .int z108, .int z140]) (st := []) kw_hE rfl rfl lvX6_74 arX6_sailFrom (ih (kw_ui S94 27 k.toNatClampNeg x93) I146 z148 z108 z140 (by omega) (by omega)) (by omega) (Nat.le_of_ble_eq_true rfl) rfl (fun v S150 p149 => ?_)
                        obtain ⟨⟨I151, F152⟩, rfl⟩ := p149
                        have F153 : kw_F [7, 24, 27] σ S150 := kw_F.tr F147 F152 (by decide)
                        show kw_AW l (3 + (n + 1)) kw_E0 KX mX6_sailFrom (p_X6_sailFrom_7 σ k m t) 150 [(7, .int z140), (6, .int z108), (5, .int x93), (4, .ref 53), (0, .ref 7), (1, .int k), (2, .int m), (3, .int t)] [] S150
                        refine kw_iinc' (pc := 150) (i := 82) (k := 2) (fun z => [(5, .int z), (7, .int z140), (6, .int z108), (4, .ref 53), (0, .ref 7), (1, .int k), (2, .int m), (3, .int t)]) rfl rfl (by decide) rfl (fun _ => rfl) (fun z154 e_z154 t_z154 => ?_)
                        refine kw_goto (pc := 153) (i := 83) (tgt := 49) rfl rfl ?_
                        refine kw_sub (lv' := [(5, .int z154), (4, .ref 53), (0, .ref 7), (1, .int k), (2, .int m), (3, .int t)]) [0, 3, 4, 5, 6, 7] rfl ?_
                        exact ih98 z154 S150 I151 F153 (by omega) (by omega)
                      · refine kw_goto (pc := 128) (i := 69) (tgt := 150) rfl rfl ?_
                        refine kw_iinc' (pc := 150) (i := 82) (k := 2) (fun z => [(5, .int z), (7, .int z140), (6, .int z108), (4, .ref 53), (0, .ref 7), (1, .int k), (2, .int m), (3, .int t)]) rfl rfl (by decide) rfl (fun _ => rfl) (fun z155 e_z155 t_z155 => ?_)
                        refine kw_goto (pc := 153) (i := 83) (tgt := 49) rfl rfl ?_
                        refine kw_sub (lv' := [(5, .int z155), (4, .ref 53), (0, .ref 7), (1, .int k), (2, .int m), (3, .int t)]) [0, 3, 4, 5, 6, 7] rfl ?_
                        exact ih98 z155 S94 I95 F96 (by omega) (by omega)
                  · refine kw_goto (pc := 95) (i := 53) (tgt := 150) rfl rfl ?_
                    refine kw_iinc' (pc := 150) (i := 82) (k := 1) (fun z => [(5, .int z), (6, .int z108), (4, .ref 53), (0, .ref 7), (1, .int k), (2, .int m), (3, .int t)]) rfl rfl (by decide) rfl (fun _ => rfl) (fun z156 e_z156 t_z156 => ?_)
                    refine kw_goto (pc := 153) (i := 83) (tgt := 49) rfl rfl ?_
                    refine kw_sub (lv' := [(5, .int z156), (4, .ref 53), (0, .ref 7), (1, .int k), (2, .int m), (3, .int t)]) [0, 2, 3, 4, 5, 6] rfl ?_
                    exact ih98 z156 S94 I95 F96 (by omega) (by omega)
          exact L97 _ 0 σ hI hF0 (by omega) (Nat.lt_succ_self _)
        · have e_w28 : k.toNatClampNeg = 2 := by have := kw_clampI (x := k) (by omega); omega
          refine kw_aald (pc := 43) (i := 25) (b := 54) rfl rfl (by decide) (by omega) (by rw [e_w28]; rfl) ?_
          refine kw_astore (pc := 44) (i := 26) (n := 4) (lv' := [(4, .ref 54), (0, .ref 7), (1, .int k), (2, .int m), (3, .int t)]) rfl (by decide) rfl ?_
          refine kw_iconst (pc := 46) (i := 27) (v := 0) rfl rfl ?_
          refine kw_istore (pc := 47) (i := 28) (n := 5) (lv' := [(5, .int 0), (4, .ref 54), (0, .ref 7), (1, .int k), (2, .int m), (3, .int t)]) rfl (by decide) rfl ?_
          have L161 : ∀ (n165 : Nat) (x157 : Int32) (S158 : kw_S), kw_I bX S158 → kw_F [7, 24, 27] σ S158 → 0 ≤ x157.toInt → ((σ.1 54 3).toInt - x157.toInt).toNat < n165 → kw_AW l (3 + (n + 1)) kw_E0 KX mX6_sailFrom (p_X6_sailFrom_7 σ k m t) 49 [(5, .int x157), (4, .ref 54), (0, .ref 7), (1, .int k), (2, .int m), (3, .int t)] [] S158 := by
            intro n165
            induction n165 with
            | zero => intro x157 S158 I159 F160 v163 m164; exact absurd m164 (Nat.not_lt_zero _)
            | succ n165 ih162 =>
              intro x157 S158 I159 F160 v163 m164
              have r_x157 := kw_rng x157
              have w_f := congrArg Int32.toInt (kw_F.at (a := 54) (j := 3) F160 (by decide))
              refine kw_iload (pc := 49) (i := 29) (k := 0) (n := 5) rfl rfl ?_
              refine kw_aload (pc := 51) (i := 30) (k := 1) (n := 4) rfl rfl ?_
              refine kw_get (pc := 53) (i := 31) (v := .int (S158.1 54 3)) rfl rfl rfl lkX6_87 (fun _ => rfl) ?_
              have b166 := kw_rng (S158.1 54 3)
              refine kw_icmp_ge (pc := 56) (i := 32) (tgt := 156) rfl rfl (fun c167 => ?_) (fun c167 => ?_)
              · exact kw_return (pc := 156) (i := 84) rfl rfl ⟨⟨I159, F160⟩, rfl⟩
              · refine kw_iload_n (pc := 59) (i := 33) (k := 4) (n := 2) rfl rfl rfl ?_
                refine kw_aload (pc := 60) (i := 34) (k := 1) (n := 4) rfl rfl ?_
                refine kw_iload (pc := 62) (i := 35) (k := 0) (n := 5) rfl rfl ?_
                refine kw_callV (pc := 64) (i := 36) (Y := mX0_milesOf) (a := 54) (As := [.int x157]) (st := [.int m]) kw_hE rfl rfl lvX6_90 arX0_milesOf (c_X0_milesOf_54 l S158 I159 x157 ) (by omega) (Nat.le_of_ble_eq_true rfl) rfl (fun v S169 p168 => ?_)
                obtain ⟨e171, z170, rfl⟩ := p168
                rw [e171]
                have r_z170 := kw_rng z170
                show kw_AW l (3 + (n + 1)) kw_E0 KX mX6_sailFrom (p_X6_sailFrom_7 σ k m t) 67 [(5, .int x157), (4, .ref 54), (0, .ref 7), (1, .int k), (2, .int m), (3, .int t)] [.int z170, .int m] S158
                refine kw_iadd (pc := 67) (i := 37) rfl (fun z172 e_z172 t_z172 => ?_)
                refine kw_istore (pc := 68) (i := 38) (n := 6) (lv' := [(6, .int z172), (5, .int x157), (4, .ref 54), (0, .ref 7), (1, .int k), (2, .int m), (3, .int t)]) rfl (by decide) rfl ?_
                refine kw_aload_n (pc := 70) (i := 39) (k := 3) (n := 0) rfl rfl rfl ?_
                refine kw_get (pc := 71) (i := 40) (v := .int (S158.1 7 5)) rfl rfl rfl lkX6_41 (fun _ => rfl) ?_
                have b173 : 0 ≤ (S158.1 7 5).toInt ∧ (S158.1 7 5).toInt ≤ 1 := I159 7 5
                refine kw_if_eq (pc := 74) (i := 41) (tgt := 98) rfl rfl (fun c174 => ?_) (fun c174 => ?_)
                · refine kw_iload_n (pc := 98) (i := 54) (k := 6) (n := 3) rfl rfl rfl ?_
                  refine kw_aload (pc := 99) (i := 55) (k := 2) (n := 4) rfl rfl ?_
                  refine kw_iload (pc := 101) (i := 56) (k := 1) (n := 5) rfl rfl ?_
                  refine kw_callV (pc := 103) (i := 57) (Y := mX0_turnBy) (a := 54) (As := [.int x157]) (st := [.int t]) kw_hE rfl rfl lvX6_93 arX0_turnBy (c_X0_turnBy_54 l S158 I159 x157 ) (by omega) (Nat.le_of_ble_eq_true rfl) rfl (fun v S176 p175 => ?_)
                  obtain ⟨e178, z177, rfl⟩ := p175
                  rw [e178]
                  have r_z177 := kw_rng z177
                  show kw_AW l (3 + (n + 1)) kw_E0 KX mX6_sailFrom (p_X6_sailFrom_7 σ k m t) 106 [(6, .int z172), (5, .int x157), (4, .ref 54), (0, .ref 7), (1, .int k), (2, .int m), (3, .int t)] [.int z177, .int t] S158
                  refine kw_iadd (pc := 106) (i := 58) rfl (fun z179 e_z179 t_z179 => ?_)
                  refine kw_istore (pc := 107) (i := 59) (n := 7) (lv' := [(7, .int z179), (6, .int z172), (5, .int x157), (4, .ref 54), (0, .ref 7), (1, .int k), (2, .int m), (3, .int t)]) rfl (by decide) rfl ?_
                  refine kw_iload (pc := 109) (i := 60) (k := 0) (n := 7) rfl rfl ?_
                  refine kw_aload_n (pc := 111) (i := 61) (k := 4) (n := 0) rfl rfl rfl ?_
                  refine kw_get (pc := 112) (i := 62) (v := .int (S158.1 7 7)) rfl rfl rfl lkX6_38 (fun _ => rfl) ?_
                  have b180 := kw_rng (S158.1 7 7)
                  refine kw_icmp_gt (pc := 115) (i := 63) (tgt := 150) rfl rfl (fun c181 => ?_) (fun c181 => ?_)
                  · refine kw_iinc' (pc := 150) (i := 82) (k := 2) (fun z => [(5, .int z), (7, .int z179), (6, .int z172), (4, .ref 54), (0, .ref 7), (1, .int k), (2, .int m), (3, .int t)]) rfl rfl (by decide) rfl (fun _ => rfl) (fun z182 e_z182 t_z182 => ?_)
                    refine kw_goto (pc := 153) (i := 83) (tgt := 49) rfl rfl ?_
                    refine kw_sub (lv' := [(5, .int z182), (4, .ref 54), (0, .ref 7), (1, .int k), (2, .int m), (3, .int t)]) [0, 3, 4, 5, 6, 7] rfl ?_
                    exact ih162 z182 S158 I159 F160 (by omega) (by omega)
                  · refine kw_iload (pc := 118) (i := 64) (k := 0) (n := 7) rfl rfl ?_
                    refine kw_aload_n (pc := 120) (i := 65) (k := 4) (n := 0) rfl rfl rfl ?_
                    refine kw_get (pc := 121) (i := 66) (v := .int (S158.1 7 7)) rfl rfl rfl lkX6_38 (fun _ => rfl) ?_
                    refine kw_ineg (pc := 124) (i := 67) rfl (fun z183 e_z183 t_z183 => ?_)
                    refine kw_icmp_ge (pc := 125) (i := 68) (tgt := 131) rfl rfl (fun c184 => ?_) (fun c184 => ?_)
                    · refine kw_aload_n (pc := 131) (i := 70) (k := 4) (n := 0) rfl rfl rfl ?_
                      refine kw_get (pc := 132) (i := 71) (v := .ref 27) rfl rfl rfl lkX6_24 (fun _ => rfl) ?_
                      refine kw_iload_n (pc := 135) (i := 72) (k := 5) (n := 1) rfl rfl rfl ?_
                      refine kw_iload (pc := 136) (i := 73) (k := 2) (n := 5) rfl rfl ?_
                      refine kw_iast (pc := 138) (i := 74) (n := 3) rfl rfl (by omega) (by omega) ?_
                      have I185 : kw_I bX (kw_ui S158 27 k.toNatClampNeg x157) := kw_I_ui I159 (kw_rng x157).1 (Int.le_of_lt_add_one (kw_rng x157).2)
                      have F186 : kw_F [7, 24, 27] σ (kw_ui S158 27 k.toNatClampNeg x157) := kw_F_ui F160 (by decide)
                      refine kw_aload_n (pc := 139) (i := 75) (k := 4) (n := 0) rfl rfl rfl ?_
                      refine kw_iload_n (pc := 140) (i := 76) (k := 5) (n := 1) rfl rfl rfl ?_
                      refine kw_iconst (pc := 141) (i := 77) (v := 1) rfl rfl ?_
                      refine kw_iadd (pc := 142) (i := 78) rfl (fun z187 e_z187 t_z187 => ?_)
                      refine kw_iload (pc := 143) (i := 79) (k := 1) (n := 6) rfl rfl ?_
                      refine kw_iload (pc := 145) (i := 80) (k := 0) (n := 7) rfl rfl ?_
                      refine kw_callV (pc := 147) (i := 81) (Y := mX6_sailFrom) (a := 7) (As := [.int z187, .int z172, .int z179]) (st := []) kw_hE rfl rfl lvX6_74 arX6_sailFrom (ih (kw_ui S158 27 k.toNatClampNeg x157) I185 z187 z172 z179 (by omega) (by omega)) (by omega) (Nat.le_of_ble_eq_true rfl) rfl (fun v S189 p188 => ?_)
                      obtain ⟨⟨I190, F191⟩, rfl⟩ := p188
                      have F192 : kw_F [7, 24, 27] σ S189 := kw_F.tr F186 F191 (by decide)
                      show kw_AW l (3 + (n + 1)) kw_E0 KX mX6_sailFrom (p_X6_sailFrom_7 σ k m t) 150 [(7, .int z179), (6, .int z172), (5, .int x157), (4, .ref 54), (0, .ref 7), (1, .int k), (2, .int m), (3, .int t)] [] S189
                      refine kw_iinc' (pc := 150) (i := 82) (k := 2) (fun z => [(5, .int z), (7, .int z179), (6, .int z172), (4, .ref 54), (0, .ref 7), (1, .int k), (2, .int m), (3, .int t)]) rfl rfl (by decide) rfl (fun _ => rfl) (fun z193 e_z193 t_z193 => ?_)
                      refine kw_goto (pc := 153) (i := 83) (tgt := 49) rfl rfl ?_
                      refine kw_sub (lv' := [(5, .int z193), (4, .ref 54), (0, .ref 7), (1, .int k), (2, .int m), (3, .int t)]) [0, 3, 4, 5, 6, 7] rfl ?_
                      exact ih162 z193 S189 I190 F192 (by omega) (by omega)
                    · refine kw_goto (pc := 128) (i := 69) (tgt := 150) rfl rfl ?_
                      refine kw_iinc' (pc := 150) (i := 82) (k := 2) (fun z => [(5, .int z), (7, .int z179), (6, .int z172), (4, .ref 54), (0, .ref 7), (1, .int k), (2, .int m), (3, .int t)]) rfl rfl (by decide) rfl (fun _ => rfl) (fun z194 e_z194 t_z194 => ?_)
                      refine kw_goto (pc := 153) (i := 83) (tgt := 49) rfl rfl ?_
                      refine kw_sub (lv' := [(5, .int z194), (4, .ref 54), (0, .ref 7), (1, .int k), (2, .int m), (3, .int t)]) [0, 3, 4, 5, 6, 7] rfl ?_
                      exact ih162 z194 S158 I159 F160 (by omega) (by omega)
                · refine kw_iload (pc := 77) (i := 42) (k := 0) (n := 6) rfl rfl ?_
                  refine kw_aload_n (pc := 79) (i := 43) (k := 3) (n := 0) rfl rfl rfl ?_
                  refine kw_get (pc := 80) (i := 44) (v := .ref 26) rfl rfl rfl lkX6_21 (fun _ => rfl) ?_
                  refine kw_iload_n (pc := 83) (i := 45) (k := 4) (n := 1) rfl rfl rfl ?_
                  refine kw_iconst (pc := 84) (i := 46) (v := 1) rfl rfl ?_
                  refine kw_iadd (pc := 85) (i := 47) rfl (fun z195 e_z195 t_z195 => ?_)
                  refine kw_iald (pc := 86) (i := 48) (n := 4) rfl rfl (by omega) (by omega) (fun z196 e_z196 => ?_)
                  have t_z196 := congrArg Int32.toInt e_z196
                  have r_z196 := kw_rng z196
                  refine kw_iadd (pc := 87) (i := 49) rfl (fun z197 e_z197 t_z197 => ?_)
                  refine kw_aload_n (pc := 88) (i := 50) (k := 3) (n := 0) rfl rfl rfl ?_
                  refine kw_get (pc := 89) (i := 51) (v := .int (S158.1 7 1)) rfl rfl rfl lkX6_78 (fun _ => rfl) ?_
                  have b198 := kw_rng (S158.1 7 1)
                  refine kw_icmp_gt (pc := 92) (i := 52) (tgt := 98) rfl rfl (fun c199 => ?_) (fun c199 => ?_)
                  · refine kw_iload_n (pc := 98) (i := 54) (k := 6) (n := 3) rfl rfl rfl ?_
                    refine kw_aload (pc := 99) (i := 55) (k := 2) (n := 4) rfl rfl ?_
                    refine kw_iload (pc := 101) (i := 56) (k := 1) (n := 5) rfl rfl ?_
                    refine kw_callV (pc := 103) (i := 57) (Y := mX0_turnBy) (a := 54) (As := [.int x157]) (st := [.int t]) kw_hE rfl rfl lvX6_93 arX0_turnBy (c_X0_turnBy_54 l S158 I159 x157 ) (by omega) (Nat.le_of_ble_eq_true rfl) rfl (fun v S201 p200 => ?_)
                    obtain ⟨e203, z202, rfl⟩ := p200
                    rw [e203]
                    have r_z202 := kw_rng z202
                    show kw_AW l (3 + (n + 1)) kw_E0 KX mX6_sailFrom (p_X6_sailFrom_7 σ k m t) 106 [(6, .int z172), (5, .int x157), (4, .ref 54), (0, .ref 7), (1, .int k), (2, .int m), (3, .int t)] [.int z202, .int t] S158
                    refine kw_iadd (pc := 106) (i := 58) rfl (fun z204 e_z204 t_z204 => ?_)
                    refine kw_istore (pc := 107) (i := 59) (n := 7) (lv' := [(7, .int z204), (6, .int z172), (5, .int x157), (4, .ref 54), (0, .ref 7), (1, .int k), (2, .int m), (3, .int t)]) rfl (by decide) rfl ?_
                    refine kw_iload (pc := 109) (i := 60) (k := 0) (n := 7) rfl rfl ?_
                    refine kw_aload_n (pc := 111) (i := 61) (k := 4) (n := 0) rfl rfl rfl ?_
                    refine kw_get (pc := 112) (i := 62) (v := .int (S158.1 7 7)) rfl rfl rfl lkX6_38 (fun _ => rfl) ?_
                    have b205 := kw_rng (S158.1 7 7)
                    refine kw_icmp_gt (pc := 115) (i := 63) (tgt := 150) rfl rfl (fun c206 => ?_) (fun c206 => ?_)
                    · refine kw_iinc' (pc := 150) (i := 82) (k := 2) (fun z => [(5, .int z), (7, .int z204), (6, .int z172), (4, .ref 54), (0, .ref 7), (1, .int k), (2, .int m), (3, .int t)]) rfl rfl (by decide) rfl (fun _ => rfl) (fun z207 e_z207 t_z207 => ?_)
                      refine kw_goto (pc := 153) (i := 83) (tgt := 49) rfl rfl ?_
                      refine kw_sub (lv' := [(5, .int z207), (4, .ref 54), (0, .ref 7), (1, .int k), (2, .int m), (3, .int t)]) [0, 3, 4, 5, 6, 7] rfl ?_
                      exact ih162 z207 S158 I159 F160 (by omega) (by omega)
                    · refine kw_iload (pc := 118) (i := 64) (k := 0) (n := 7) rfl rfl ?_
                      refine kw_aload_n (pc := 120) (i := 65) (k := 4) (n := 0) rfl rfl rfl ?_
                      refine kw_get (pc := 121) (i := 66) (v := .int (S158.1 7 7)) rfl rfl rfl lkX6_38 (fun _ => rfl) ?_
                      refine kw_ineg (pc := 124) (i := 67) rfl (fun z208 e_z208 t_z208 => ?_)
                      refine kw_icmp_ge (pc := 125) (i := 68) (tgt := 131) rfl rfl (fun c209 => ?_) (fun c209 => ?_)
                      · refine kw_aload_n (pc := 131) (i := 70) (k := 4) (n := 0) rfl rfl rfl ?_
                        refine kw_get (pc := 132) (i := 71) (v := .ref 27) rfl rfl rfl lkX6_24 (fun _ => rfl) ?_
                        refine kw_iload_n (pc := 135) (i := 72) (k := 5) (n := 1) rfl rfl rfl ?_
                        refine kw_iload (pc := 136) (i := 73) (k := 2) (n := 5) rfl rfl ?_
                        refine kw_iast (pc := 138) (i := 74) (n := 3) rfl rfl (by omega) (by omega) ?_
                        have I210 : kw_I bX (kw_ui S158 27 k.toNatClampNeg x157) := kw_I_ui I159 (kw_rng x157).1 (Int.le_of_lt_add_one (kw_rng x157).2)
                        have F211 : kw_F [7, 24, 27] σ (kw_ui S158 27 k.toNatClampNeg x157) := kw_F_ui F160 (by decide)
                        refine kw_aload_n (pc := 139) (i := 75) (k := 4) (n := 0) rfl rfl rfl ?_
                        refine kw_iload_n (pc := 140) (i := 76) (k := 5) (n := 1) rfl rfl rfl ?_
                        refine kw_iconst (pc := 141) (i := 77) (v := 1) rfl rfl ?_
                        refine kw_iadd (pc := 142) (i := 78) rfl (fun z212 e_z212 t_z212 => ?_)
                        refine kw_iload (pc := 143) (i := 79) (k := 1) (n := 6) rfl rfl ?_
                        refine kw_iload (pc := 145) (i := 80) (k := 0) (n := 7) rfl rfl ?_
                        refine kw_callV (pc := 147) (i := 81) (Y := mX6_sailFrom) (a := 7) (As := [.int z212, .int z172, .int z204]) (st := []) kw_hE rfl rfl lvX6_74 arX6_sailFrom (ih (kw_ui S158 27 k.toNatClampNeg x157) I210 z212 z172 z204 (by omega) (by omega)) (by omega) (Nat.le_of_ble_eq_true rfl) rfl (fun v S214 p213 => ?_)
                        obtain ⟨⟨I215, F216⟩, rfl⟩ := p213
                        have F217 : kw_F [7, 24, 27] σ S214 := kw_F.tr F211 F216 (by decide)
                        show kw_AW l (3 + (n + 1)) kw_E0 KX mX6_sailFrom (p_X6_sailFrom_7 σ k m t) 150 [(7, .int z204), (6, .int z172), (5, .int x157), (4, .ref 54), (0, .ref 7), (1, .int k), (2, .int m), (3, .int t)] [] S214
                        refine kw_iinc' (pc := 150) (i := 82) (k := 2) (fun z => [(5, .int z), (7, .int z204), (6, .int z172), (4, .ref 54), (0, .ref 7), (1, .int k), (2, .int m), (3, .int t)]) rfl rfl (by decide) rfl (fun _ => rfl) (fun z218 e_z218 t_z218 => ?_)
                        refine kw_goto (pc := 153) (i := 83) (tgt := 49) rfl rfl ?_
                        refine kw_sub (lv' := [(5, .int z218), (4, .ref 54), (0, .ref 7), (1, .int k), (2, .int m), (3, .int t)]) [0, 3, 4, 5, 6, 7] rfl ?_
                        exact ih162 z218 S214 I215 F217 (by omega) (by omega)
                      · refine kw_goto (pc := 128) (i := 69) (tgt := 150) rfl rfl ?_
                        refine kw_iinc' (pc := 150) (i := 82) (k := 2) (fun z => [(5, .int z), (7, .int z204), (6, .int z172), (4, .ref 54), (0, .ref 7), (1, .int k), (2, .int m), (3, .int t)]) rfl rfl (by decide) rfl (fun _ => rfl) (fun z219 e_z219 t_z219 => ?_)
                        refine kw_goto (pc := 153) (i := 83) (tgt := 49) rfl rfl ?_
                        refine kw_sub (lv' := [(5, .int z219), (4, .ref 54), (0, .ref 7), (1, .int k), (2, .int m), (3, .int t)]) [0, 3, 4, 5, 6, 7] rfl ?_
                        exact ih162 z219 S158 I159 F160 (by omega) (by omega)
                  · refine kw_goto (pc := 95) (i := 53) (tgt := 150) rfl rfl ?_
                    refine kw_iinc' (pc := 150) (i := 82) (k := 1) (fun z => [(5, .int z), (6, .int z172), (4, .ref 54), (0, .ref 7), (1, .int k), (2, .int m), (3, .int t)]) rfl rfl (by decide) rfl (fun _ => rfl) (fun z220 e_z220 t_z220 => ?_)
                    refine kw_goto (pc := 153) (i := 83) (tgt := 49) rfl rfl ?_
                    refine kw_sub (lv' := [(5, .int z220), (4, .ref 54), (0, .ref 7), (1, .int k), (2, .int m), (3, .int t)]) [0, 2, 3, 4, 5, 6] rfl ?_
                    exact ih162 z220 S158 I159 F160 (by omega) (by omega)
          exact L161 _ 0 σ hI hF0 (by omega) (Nat.lt_succ_self _)
      · refine kw_aload_n (pc := 13) (i := 7) (k := 0) (n := 0) rfl rfl rfl ?_
        refine kw_iconst (pc := 14) (i := 8) (v := 1) rfl rfl ?_
        refine kw_puti (pc := 15) (i := 9) (z := 0) rfl rfl rfl lpX6_41 rfl rfl ?_
        have I221 : kw_I bX (kw_ui σ 7 5 1) := kw_I_ui hI (show 0 ≤ (1 : Int32).toInt by omega) (show (1 : Int32).toInt ≤ 1 by omega)
        have F222 : kw_F [7, 24, 27] σ (kw_ui σ 7 5 1) := kw_F_ui hF0 (by decide)
        refine kw_aload_n (pc := 18) (i := 10) (k := 0) (n := 0) rfl rfl rfl ?_
        refine kw_iload_n (pc := 19) (i := 11) (k := 2) (n := 2) rfl rfl rfl ?_
        refine kw_puti (pc := 20) (i := 12) (z := 0) rfl rfl rfl lpX6_78 rfl rfl ?_
        have I223 : kw_I bX (kw_ui (kw_ui σ 7 5 1) 7 1 m) := kw_I_ui I221 (kw_rng m).1 (Int.le_of_lt_add_one (kw_rng m).2)
        have F224 : kw_F [7, 24, 27] σ (kw_ui (kw_ui σ 7 5 1) 7 1 m) := kw_F_ui F222 (by decide)
        refine kw_aload_n (pc := 23) (i := 13) (k := 0) (n := 0) rfl rfl rfl ?_
        refine kw_get (pc := 24) (i := 14) (v := .ref 27) rfl rfl rfl lkX6_24 (fun _ => rfl) ?_
        refine kw_iconst (pc := 27) (i := 15) (v := 0) rfl rfl ?_
        refine kw_aload_n (pc := 28) (i := 16) (k := 0) (n := 0) rfl rfl rfl ?_
        refine kw_get (pc := 29) (i := 17) (v := .ref 24) rfl rfl rfl lkX6_9 (fun _ => rfl) ?_
        refine kw_iconst (pc := 32) (i := 18) (v := 0) rfl rfl ?_
        refine kw_iconst (pc := 33) (i := 19) (v := 3) rfl rfl ?_
        refine kw_copy (pc := 34) (i := 20) (n := 3) (m_ := 3) rfl laX6_81 rfl rfl (by omega) (by omega) (by omega) (by omega) (by omega) (by omega) (Nat.le_of_ble_eq_true rfl) ?_
        have I225 : kw_I bX (kw_ua (kw_ui (kw_ui σ 7 5 1) 7 1 m) 24 (va_cpy ((kw_ui (kw_ui σ 7 5 1) 7 1 m).1 27) ((kw_ui (kw_ui σ 7 5 1) 7 1 m).1 24) ((0 : Int32).toNatClampNeg) ((0 : Int32).toNatClampNeg) ((3 : Int32).toNatClampNeg))) := kw_I_ua I223 (fun j => ⟨(kw_rng _).1, Int.le_of_lt_add_one (kw_rng _).2⟩)
        have F226 : kw_F [7, 24, 27] σ (kw_ua (kw_ui (kw_ui σ 7 5 1) 7 1 m) 24 (va_cpy ((kw_ui (kw_ui σ 7 5 1) 7 1 m).1 27) ((kw_ui (kw_ui σ 7 5 1) 7 1 m).1 24) ((0 : Int32).toNatClampNeg) ((0 : Int32).toNatClampNeg) ((3 : Int32).toNatClampNeg))) := kw_F_ua F224 (by decide)
        generalize (kw_ua (kw_ui (kw_ui σ 7 5 1) 7 1 m) 24 (va_cpy ((kw_ui (kw_ui σ 7 5 1) 7 1 m).1 27) ((kw_ui (kw_ui σ 7 5 1) 7 1 m).1 24) ((0 : Int32).toNatClampNeg) ((0 : Int32).toNatClampNeg) ((3 : Int32).toNatClampNeg))) = S227 at I225 F226 ⊢
        exact kw_return (pc := 37) (i := 21) rfl rfl ⟨⟨I225, F226⟩, rfl⟩
