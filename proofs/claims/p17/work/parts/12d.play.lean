noncomputable def l_X7_play_6_35 (rc : kw_S → Int32 → Int32 → Int32) (a1 : Int32) (a2 : Int32) (S : kw_S) : Nat → Int32 → Int32 → Int32
  | 0, _, _ => 0
  | n + 1, x4, x5 => if x5.toInt < (S.1 6 2).toInt then (kf_l (a1 >>> (x5 &&& 31)) fun z5 => kf_l (z5 &&& (1 : Int32)) fun z6 => if z6.toInt = (1 : Int32).toInt then (if (1 : Int32).toInt = (0 : Int32).toInt then (0) else (kf_l ((1 : Int32) <<< (x5 &&& 31)) fun z8 => kf_l (a1 ^^^ z8) fun z9 => kf_l (a2 - (1 : Int32)) fun z10 => kf_l (rc S z9 z10) fun z11 => if (0 : Int32).toInt = 0 then (kf_l (if z11 < x4 then z11 else x4) fun z12 => kf_l (x5 + Int32.ofInt 1) fun z13 => l_X7_play_6_35 rc a1 a2 S n z12 z13) else (0))) else (if (0 : Int32).toInt = (0 : Int32).toInt then (kf_l (x5 + Int32.ofInt 1) fun z7 => l_X7_play_6_35 rc a1 a2 S n x4 z7) else (0))) else (x4)
theorem l_X7_play_6_35_s (rc : kw_S → Int32 → Int32 → Int32) (a1 : Int32) (a2 : Int32) (S : kw_S) (n : Nat) (x4 : Int32) (x5 : Int32) : l_X7_play_6_35 rc a1 a2 S (n + 1) x4 x5 = if x5.toInt < (S.1 6 2).toInt then (kf_l (a1 >>> (x5 &&& 31)) fun z5 => kf_l (z5 &&& (1 : Int32)) fun z6 => if z6.toInt = (1 : Int32).toInt then (if (1 : Int32).toInt = (0 : Int32).toInt then (0) else (kf_l ((1 : Int32) <<< (x5 &&& 31)) fun z8 => kf_l (a1 ^^^ z8) fun z9 => kf_l (a2 - (1 : Int32)) fun z10 => kf_l (rc S z9 z10) fun z11 => if (0 : Int32).toInt = 0 then (kf_l (if z11 < x4 then z11 else x4) fun z12 => kf_l (x5 + Int32.ofInt 1) fun z13 => l_X7_play_6_35 rc a1 a2 S n z12 z13) else (0))) else (if (0 : Int32).toInt = (0 : Int32).toInt then (kf_l (x5 + Int32.ofInt 1) fun z7 => l_X7_play_6_35 rc a1 a2 S n x4 z7) else (0))) else (x4) := rfl
noncomputable def l_X7_play_6_35a (rc : kw_S → Int32 → Int32 → Int32) (a1 : Int32) (a2 : Int32) (S : kw_S) : Nat → Int32 → Int32 → Int32
  | 0, _, _ => 0
  | n + 1, x4, x5 => if x5.toInt < (S.1 6 2).toInt then (kf_l (a1 >>> (x5 &&& 31)) fun z16 => kf_l (z16 &&& (1 : Int32)) fun z17 => if z17.toInt = (1 : Int32).toInt then (if (1 : Int32).toInt = (1 : Int32).toInt then (kf_l (x5 + Int32.ofInt 1) fun z24 => l_X7_play_6_35a rc a1 a2 S n x4 z24) else (0)) else (if (0 : Int32).toInt = (1 : Int32).toInt then (0) else (kf_l ((1 : Int32) <<< (x5 &&& 31)) fun z18 => kf_l (a1 ^^^ z18) fun z19 => kf_l (a2 - (1 : Int32)) fun z20 => kf_l (rc S z19 z20) fun z21 => if (1 : Int32).toInt = 0 then (0) else (kf_l (if x4 < z21 then z21 else x4) fun z22 => kf_l (x5 + Int32.ofInt 1) fun z23 => l_X7_play_6_35a rc a1 a2 S n z22 z23)))) else (x4)
theorem l_X7_play_6_35a_s (rc : kw_S → Int32 → Int32 → Int32) (a1 : Int32) (a2 : Int32) (S : kw_S) (n : Nat) (x4 : Int32) (x5 : Int32) : l_X7_play_6_35a rc a1 a2 S (n + 1) x4 x5 = if x5.toInt < (S.1 6 2).toInt then (kf_l (a1 >>> (x5 &&& 31)) fun z16 => kf_l (z16 &&& (1 : Int32)) fun z17 => if z17.toInt = (1 : Int32).toInt then (if (1 : Int32).toInt = (1 : Int32).toInt then (kf_l (x5 + Int32.ofInt 1) fun z24 => l_X7_play_6_35a rc a1 a2 S n x4 z24) else (0)) else (if (0 : Int32).toInt = (1 : Int32).toInt then (0) else (kf_l ((1 : Int32) <<< (x5 &&& 31)) fun z18 => kf_l (a1 ^^^ z18) fun z19 => kf_l (a2 - (1 : Int32)) fun z20 => kf_l (rc S z19 z20) fun z21 => if (1 : Int32).toInt = 0 then (0) else (kf_l (if x4 < z21 then z21 else x4) fun z22 => kf_l (x5 + Int32.ofInt 1) fun z23 => l_X7_play_6_35a rc a1 a2 S n z22 z23)))) else (x4) := rfl
noncomputable def f_X7_play_6 : Nat → kw_S → Int32 → Int32 → Int32
  | 0, σ, hung, left => if 0 < left.toInt then (0) else (kf_l (f_X0_milesOf_6 σ hung) fun z1 => z1)
  | n + 1, σ, hung, left => if 0 < left.toInt then (kf_l (left - left / (2 : Int32) * (2 : Int32)) fun z2 => if z2.toInt = 0 then (kf_l (left - (1 : Int32)) fun z14 => kf_l (f_X7_play_6 n σ hung z14) fun z15 => l_X7_play_6_35a (f_X7_play_6 n) hung left σ ((7 - (0 : Int32).toInt).toNat + 1) z15 (0 : Int32)) else (kf_l (left - (1 : Int32)) fun z3 => kf_l (f_X7_play_6 n σ hung z3) fun z4 => l_X7_play_6_35 (f_X7_play_6 n) hung left σ ((7 - (0 : Int32).toInt).toNat + 1) z4 (0 : Int32))) else (kf_l (f_X0_milesOf_6 σ hung) fun z25 => z25)
theorem f_X7_play_6_u0 (σ : kw_S) (hung : Int32) (left : Int32) : f_X7_play_6 0 σ hung left = if 0 < left.toInt then (0) else (kf_l (f_X0_milesOf_6 σ hung) fun z1 => z1) := rfl
theorem f_X7_play_6_u1 (n : Nat) (σ : kw_S) (hung : Int32) (left : Int32) : f_X7_play_6 (n + 1) σ hung left = if 0 < left.toInt then (kf_l (left - left / (2 : Int32) * (2 : Int32)) fun z2 => if z2.toInt = 0 then (kf_l (left - (1 : Int32)) fun z14 => kf_l (f_X7_play_6 n σ hung z14) fun z15 => l_X7_play_6_35a (f_X7_play_6 n) hung left σ ((7 - (0 : Int32).toInt).toNat + 1) z15 (0 : Int32)) else (kf_l (left - (1 : Int32)) fun z3 => kf_l (f_X7_play_6 n σ hung z3) fun z4 => l_X7_play_6_35 (f_X7_play_6 n) hung left σ ((7 - (0 : Int32).toInt).toNat + 1) z4 (0 : Int32))) else (kf_l (f_X0_milesOf_6 σ hung) fun z25 => z25) := rfl
abbrev p_X7_play_6 (n : Nat) (σ : kw_S) (hung : Int32) (left : Int32) : Option Value → kw_S → Prop := fun vv σ' => σ' = σ ∧ ∃ r : Int32, vv = some (.int r) ∧ r = f_X7_play_6 n σ hung left
set_option maxRecDepth 100000 in
set_option maxHeartbeats 4000000 in
theorem c_X7_play_6 (l : Launch) : ∀ (n : Nat) (σ : kw_S) (hI : kw_I bX σ) (hung : Int32) (left : Int32) (hp0 : left.toInt ≤ n), kw_Met l (2 + n) KX mX7_play [.ref 6, .int hung, .int left] σ (p_X7_play_6 n σ hung left) := by
  intro n
  induction n with
  | zero =>
    intro σ hI hung left hp0
    have r_hung := kw_rng hung
    have r_left := kw_rng left
    have hF := (f_X7_play_6_u0 σ hung left).symm
    refine kw_Met.of (by decide) rfl tX7_play (Nat.le_of_ble_eq_true rfl) ?_
    show kw_AW l (2 + 0) kw_E0 KX mX7_play (p_X7_play_6 0 σ hung left) 0 [(0, .ref 6), (1, .int hung), (2, .int left)] [] σ
    refine kw_iload_n (pc := 0) (i := 0) (k := 2) (n := 2) rfl rfl rfl ?_
    refine kw_if_gt (pc := 1) (i := 1) (tgt := 10) rfl rfl (fun c1 => ?_) (fun c1 => ?_)
    · exfalso; omega
    · replace hF := kf_nl c1 hF
      refine kw_aload_n (pc := 4) (i := 2) (k := 0) (n := 0) rfl rfl rfl ?_
      refine kw_iload_n (pc := 5) (i := 3) (k := 1) (n := 1) rfl rfl rfl ?_
      refine kw_callV (pc := 6) (i := 4) (Y := mX0_milesOf) (a := 6) (As := [.int hung]) (st := []) kw_hE rfl rfl lvX7_238 arX0_milesOf (c_X0_milesOf_6 l σ hI hung ) (by omega) (Nat.le_of_ble_eq_true rfl) rfl (fun v S3 p2 => ?_)
      obtain ⟨e6, z5, rfl, ef4⟩ := p2
      rw [e6]
      replace hF := kf_le ef4 hF
      have r_z5 := kw_rng z5
      show kw_AW l (2 + 0) kw_E0 KX mX7_play (p_X7_play_6 0 σ hung left) 9 [(0, .ref 6), (1, .int hung), (2, .int left)] [.int z5] σ
      exact kw_ireturn (pc := 9) (i := 5) (ty := .int) rfl rfl rfl ⟨rfl, _, rfl, hF⟩
  | succ n ih =>
    intro σ hI hung left hp0
    have r_hung := kw_rng hung
    have r_left := kw_rng left
    have hF := (f_X7_play_6_u1 n σ hung left).symm
    have q_0 : (0 : Int32).toInt = 0 := rfl
    have q_1 : (1 : Int32).toInt = 1 := rfl
    have q_2 : (2 : Int32).toInt = 2 := rfl
    refine kw_Met.of (by decide) rfl tX7_play (Nat.le_of_ble_eq_true rfl) ?_
    show kw_AW l (2 + (n + 1)) kw_E0 KX mX7_play (p_X7_play_6 (n + 1) σ hung left) 0 [(0, .ref 6), (1, .int hung), (2, .int left)] [] σ
    refine kw_iload_n (pc := 0) (i := 0) (k := 2) (n := 2) rfl rfl rfl ?_
    refine kw_if_gt (pc := 1) (i := 1) (tgt := 10) rfl rfl (fun c7 => ?_) (fun c7 => ?_)
    · replace hF := kf_p c7 hF
      refine kw_iload_n (pc := 10) (i := 6) (k := 2) (n := 2) rfl rfl rfl ?_
      refine kw_iconst (pc := 11) (i := 7) (v := 2) rfl rfl ?_
      refine kw_irem (pc := 12) (i := 8) rfl (by omega) (fun z8 e_z8 => ?_)
      have r_z8 := kw_rng z8
      replace hF := kf_le e_z8 hF
      have t_z8 := kw_remI left 2 z8 e_z8
      refine kw_if_ne (pc := 13) (i := 9) (tgt := 20) rfl rfl (fun c9 => ?_) (fun c9 => ?_)
      · replace hF := kf_n c9 hF
        refine kw_iconst (pc := 20) (i := 12) (v := 0) rfl rfl ?_
        refine kw_istore_n (pc := 21) (i := 13) (n := 3) (lv' := [(3, .int 0), (0, .ref 6), (1, .int hung), (2, .int left)]) rfl rfl (by decide) rfl ?_
        refine kw_aload_n (pc := 22) (i := 14) (k := 1) (n := 0) rfl rfl rfl ?_
        refine kw_iload_n (pc := 23) (i := 15) (k := 2) (n := 1) rfl rfl rfl ?_
        refine kw_iload_n (pc := 24) (i := 16) (k := 3) (n := 2) rfl rfl rfl ?_
        refine kw_iconst (pc := 25) (i := 17) (v := 1) rfl rfl ?_
        refine kw_isub (pc := 26) (i := 18) rfl (fun z10 e_z10 t_z10 => ?_)
        replace hF := kf_le e_z10 hF
        refine kw_callS (pc := 27) (i := 19) (Y := mX7_play) (As := [.ref 6, .int hung, .int z10]) (st := []) kw_hE rfl lsX7_288 arX7_play (ih σ hI hung z10 (by first | omega | decide)) (by omega) (Nat.le_of_ble_eq_true rfl) rfl (fun v S12 p11 => ?_)
        obtain ⟨e15, z14, rfl, ef13⟩ := p11
        rw [e15]
        replace hF := kf_le ef13 hF
        have r_z14 := kw_rng z14
        show kw_AW l (2 + (n + 1)) kw_E0 KX mX7_play (p_X7_play_6 (n + 1) σ hung left) 30 [(3, .int 0), (0, .ref 6), (1, .int hung), (2, .int left)] [.int z14] σ
        refine kw_istore (pc := 30) (i := 20) (n := 4) (lv' := [(4, .int z14), (3, .int 0), (0, .ref 6), (1, .int hung), (2, .int left)]) rfl (by decide) rfl ?_
        refine kw_iconst (pc := 32) (i := 21) (v := 0) rfl rfl ?_
        refine kw_istore (pc := 33) (i := 22) (n := 5) (lv' := [(5, .int 0), (4, .int z14), (3, .int 0), (0, .ref 6), (1, .int hung), (2, .int left)]) rfl (by decide) rfl ?_
        have L18 : ∀ (n22 : Nat) (x16 : Int32) (x17 : Int32), 0 ≤ x16.toInt → l_X7_play_6_35 (f_X7_play_6 n) hung left σ n22 x17 x16 = (f_X7_play_6 (n + 1) σ hung left) → (7 - x16.toInt).toNat < n22 → kw_AW l (2 + (n + 1)) kw_E0 KX mX7_play (p_X7_play_6 (n + 1) σ hung left) 35 [(5, .int x16), (4, .int x17), (3, .int 0), (0, .ref 6), (1, .int hung), (2, .int left)] [] σ := by
          intro n22
          induction n22 with
          | zero => intro x16 x17 v20 hF m21; exact absurd m21 (Nat.not_lt_zero _)
          | succ n22 ih19 =>
            intro x16 x17 v20 hF m21
            replace hF := kf_st (l_X7_play_6_35_s _ _ _ _ _ _ _) hF
            have r_x16 := kw_rng x16
            have r_x17 := kw_rng x17
            refine kw_iload (pc := 35) (i := 23) (k := 0) (n := 5) rfl rfl ?_
            refine kw_aload_n (pc := 37) (i := 24) (k := 3) (n := 0) rfl rfl rfl ?_
            refine kw_get (pc := 38) (i := 25) (v := .int (σ.1 6 2)) rfl rfl rfl lkX7_351 (fun _ => rfl) ?_
            have b23 : 0 ≤ (σ.1 6 2).toInt ∧ (σ.1 6 2).toInt ≤ 6 := hI 6 2
            refine kw_icmp_ge (pc := 41) (i := 26) (tgt := 114) rfl rfl (fun c24 => ?_) (fun c24 => ?_)
            · replace hF := kf_nl c24 hF
              refine kw_iload (pc := 114) (i := 65) (k := 1) (n := 4) rfl rfl ?_
              exact kw_ireturn (pc := 116) (i := 66) (ty := .int) rfl rfl rfl ⟨rfl, _, rfl, hF⟩
            · replace hF := kf_p c24 hF
              refine kw_iload_n (pc := 44) (i := 27) (k := 4) (n := 1) rfl rfl rfl ?_
              refine kw_iload (pc := 45) (i := 28) (k := 0) (n := 5) rfl rfl ?_
              refine kw_ishr (pc := 47) (i := 29) rfl (fun z25 e_z25 => ?_)
              have r_z25 := kw_rng z25
              replace hF := kf_le e_z25 hF
              refine kw_iconst (pc := 48) (i := 30) (v := 1) rfl rfl ?_
              refine kw_iand (pc := 49) (i := 31) rfl (fun z26 e_z26 => ?_)
              have r_z26 := kw_rng z26
              replace hF := kf_le e_z26 hF
              refine kw_iconst (pc := 50) (i := 32) (v := 1) rfl rfl ?_
              refine kw_icmp_ne (pc := 51) (i := 33) (tgt := 58) rfl rfl (fun c27 => ?_) (fun c27 => ?_)
              · replace hF := kf_n c27 hF
                refine kw_iconst (pc := 58) (i := 36) (v := 0) rfl rfl ?_
                refine kw_istore (pc := 59) (i := 37) (n := 6) (lv' := [(6, .int 0), (5, .int x16), (4, .int x17), (3, .int 0), (0, .ref 6), (1, .int hung), (2, .int left)]) rfl (by decide) rfl ?_
                refine kw_iload (pc := 61) (i := 38) (k := 0) (n := 6) rfl rfl ?_
                refine kw_iload_n (pc := 63) (i := 39) (k := 3) (n := 3) rfl rfl rfl ?_
                refine kw_icmp_ne (pc := 64) (i := 40) (tgt := 70) rfl rfl (fun c28 => ?_) (fun c28 => ?_)
                · exfalso; omega
                · replace hF := kf_p c28 hF
                  refine kw_goto (pc := 67) (i := 41) (tgt := 108) rfl rfl ?_
                  refine kw_iinc' (pc := 108) (i := 63) (k := 1) (fun z => [(5, .int z), (6, .int 0), (4, .int x17), (3, .int 0), (0, .ref 6), (1, .int hung), (2, .int left)]) rfl rfl (by decide) rfl (fun _ => rfl) (fun z29 e_z29 t_z29 => ?_)
                  replace hF := kf_le e_z29 hF
                  refine kw_goto (pc := 111) (i := 64) (tgt := 35) rfl rfl ?_
                  refine kw_sub (lv' := [(5, .int z29), (4, .int x17), (3, .int 0), (0, .ref 6), (1, .int hung), (2, .int left)]) [0, 2, 3, 4, 5, 6] rfl ?_
                  exact ih19 z29 x17 (by omega) hF (by omega)
              · replace hF := kf_p c27 hF
                refine kw_iconst (pc := 54) (i := 34) (v := 1) rfl rfl ?_
                refine kw_goto (pc := 55) (i := 35) (tgt := 59) rfl rfl ?_
                refine kw_istore (pc := 59) (i := 37) (n := 6) (lv' := [(6, .int 1), (5, .int x16), (4, .int x17), (3, .int 0), (0, .ref 6), (1, .int hung), (2, .int left)]) rfl (by decide) rfl ?_
                refine kw_iload (pc := 61) (i := 38) (k := 0) (n := 6) rfl rfl ?_
                refine kw_iload_n (pc := 63) (i := 39) (k := 3) (n := 3) rfl rfl rfl ?_
                refine kw_icmp_ne (pc := 64) (i := 40) (tgt := 70) rfl rfl (fun c30 => ?_) (fun c30 => ?_)
                · replace hF := kf_n c30 hF
                  refine kw_aload_n (pc := 70) (i := 42) (k := 4) (n := 0) rfl rfl rfl ?_
                  refine kw_iload_n (pc := 71) (i := 43) (k := 5) (n := 1) rfl rfl rfl ?_
                  refine kw_iconst (pc := 72) (i := 44) (v := 1) rfl rfl ?_
                  refine kw_iload (pc := 73) (i := 45) (k := 1) (n := 5) rfl rfl ?_
                  refine kw_ishl (pc := 75) (i := 46) rfl (fun z31 e_z31 => ?_)
                  have r_z31 := kw_rng z31
                  replace hF := kf_le e_z31 hF
                  refine kw_ixor (pc := 76) (i := 47) rfl (fun z32 e_z32 => ?_)
                  have r_z32 := kw_rng z32
                  replace hF := kf_le e_z32 hF
                  refine kw_iload_n (pc := 77) (i := 48) (k := 6) (n := 2) rfl rfl rfl ?_
                  refine kw_iconst (pc := 78) (i := 49) (v := 1) rfl rfl ?_
                  refine kw_isub (pc := 79) (i := 50) rfl (fun z33 e_z33 t_z33 => ?_)
                  replace hF := kf_le e_z33 hF
                  refine kw_callS (pc := 80) (i := 51) (Y := mX7_play) (As := [.ref 6, .int z32, .int z33]) (st := []) kw_hE rfl lsX7_288 arX7_play (ih σ hI z32 z33 (by first | omega | decide)) (by omega) (Nat.le_of_ble_eq_true rfl) rfl (fun v S35 p34 => ?_)
                  obtain ⟨e38, z37, rfl, ef36⟩ := p34
                  rw [e38]
                  replace hF := kf_le ef36 hF
                  have r_z37 := kw_rng z37
                  show kw_AW l (2 + (n + 1)) kw_E0 KX mX7_play (p_X7_play_6 (n + 1) σ hung left) 83 [(6, .int 1), (5, .int x16), (4, .int x17), (3, .int 0), (0, .ref 6), (1, .int hung), (2, .int left)] [.int z37] σ
                  refine kw_istore (pc := 83) (i := 52) (n := 7) (lv' := [(7, .int z37), (6, .int 1), (5, .int x16), (4, .int x17), (3, .int 0), (0, .ref 6), (1, .int hung), (2, .int left)]) rfl (by decide) rfl ?_
                  refine kw_iload_n (pc := 85) (i := 53) (k := 4) (n := 3) rfl rfl rfl ?_
                  refine kw_if_eq (pc := 86) (i := 54) (tgt := 99) rfl rfl (fun c39 => ?_) (fun c39 => ?_)
                  · replace hF := kf_p c39 hF
                    refine kw_iload (pc := 99) (i := 59) (k := 3) (n := 4) rfl rfl ?_
                    refine kw_iload (pc := 101) (i := 60) (k := 0) (n := 7) rfl rfl ?_
                    refine kw_mmin (pc := 103) (i := 61) rfl jX7_357 (by omega) (Nat.le_of_ble_eq_true rfl) (fun z40 e_z40 t_z40 => ?_)
                    replace hF := kf_le e_z40 hF
                    refine kw_istore (pc := 106) (i := 62) (n := 4) (lv' := [(4, .int z40), (7, .int z37), (6, .int 1), (5, .int x16), (3, .int 0), (0, .ref 6), (1, .int hung), (2, .int left)]) rfl (by decide) rfl ?_
                    refine kw_iinc' (pc := 108) (i := 63) (k := 3) (fun z => [(5, .int z), (4, .int z40), (7, .int z37), (6, .int 1), (3, .int 0), (0, .ref 6), (1, .int hung), (2, .int left)]) rfl rfl (by decide) rfl (fun _ => rfl) (fun z41 e_z41 t_z41 => ?_)
                    replace hF := kf_le e_z41 hF
                    refine kw_goto (pc := 111) (i := 64) (tgt := 35) rfl rfl ?_
                    refine kw_sub (lv' := [(5, .int z41), (4, .int z40), (3, .int 0), (0, .ref 6), (1, .int hung), (2, .int left)]) [0, 1, 4, 5, 6, 7] rfl ?_
                    exact ih19 z41 z40 (by omega) hF (by omega)
                  · exfalso; omega
                · exfalso; omega
        exact L18 _ 0 z14 (by omega) hF (Nat.lt_succ_self _)
      · replace hF := kf_p c9 hF
        refine kw_iconst (pc := 16) (i := 10) (v := 1) rfl rfl ?_
        refine kw_goto (pc := 17) (i := 11) (tgt := 21) rfl rfl ?_
        refine kw_istore_n (pc := 21) (i := 13) (n := 3) (lv' := [(3, .int 1), (0, .ref 6), (1, .int hung), (2, .int left)]) rfl rfl (by decide) rfl ?_
        refine kw_aload_n (pc := 22) (i := 14) (k := 1) (n := 0) rfl rfl rfl ?_
        refine kw_iload_n (pc := 23) (i := 15) (k := 2) (n := 1) rfl rfl rfl ?_
        refine kw_iload_n (pc := 24) (i := 16) (k := 3) (n := 2) rfl rfl rfl ?_
        refine kw_iconst (pc := 25) (i := 17) (v := 1) rfl rfl ?_
        refine kw_isub (pc := 26) (i := 18) rfl (fun z42 e_z42 t_z42 => ?_)
        replace hF := kf_le e_z42 hF
        refine kw_callS (pc := 27) (i := 19) (Y := mX7_play) (As := [.ref 6, .int hung, .int z42]) (st := []) kw_hE rfl lsX7_288 arX7_play (ih σ hI hung z42 (by first | omega | decide)) (by omega) (Nat.le_of_ble_eq_true rfl) rfl (fun v S44 p43 => ?_)
        obtain ⟨e47, z46, rfl, ef45⟩ := p43
        rw [e47]
        replace hF := kf_le ef45 hF
        have r_z46 := kw_rng z46
        show kw_AW l (2 + (n + 1)) kw_E0 KX mX7_play (p_X7_play_6 (n + 1) σ hung left) 30 [(3, .int 1), (0, .ref 6), (1, .int hung), (2, .int left)] [.int z46] σ
        refine kw_istore (pc := 30) (i := 20) (n := 4) (lv' := [(4, .int z46), (3, .int 1), (0, .ref 6), (1, .int hung), (2, .int left)]) rfl (by decide) rfl ?_
        refine kw_iconst (pc := 32) (i := 21) (v := 0) rfl rfl ?_
        refine kw_istore (pc := 33) (i := 22) (n := 5) (lv' := [(5, .int 0), (4, .int z46), (3, .int 1), (0, .ref 6), (1, .int hung), (2, .int left)]) rfl (by decide) rfl ?_
        have L50 : ∀ (n54 : Nat) (x48 : Int32) (x49 : Int32), 0 ≤ x48.toInt → l_X7_play_6_35a (f_X7_play_6 n) hung left σ n54 x49 x48 = (f_X7_play_6 (n + 1) σ hung left) → (7 - x48.toInt).toNat < n54 → kw_AW l (2 + (n + 1)) kw_E0 KX mX7_play (p_X7_play_6 (n + 1) σ hung left) 35 [(5, .int x48), (4, .int x49), (3, .int 1), (0, .ref 6), (1, .int hung), (2, .int left)] [] σ := by
          intro n54
          induction n54 with
          | zero => intro x48 x49 v52 hF m53; exact absurd m53 (Nat.not_lt_zero _)
          | succ n54 ih51 =>
            intro x48 x49 v52 hF m53
            replace hF := kf_st (l_X7_play_6_35a_s _ _ _ _ _ _ _) hF
            have r_x48 := kw_rng x48
            have r_x49 := kw_rng x49
            refine kw_iload (pc := 35) (i := 23) (k := 0) (n := 5) rfl rfl ?_
            refine kw_aload_n (pc := 37) (i := 24) (k := 3) (n := 0) rfl rfl rfl ?_
            refine kw_get (pc := 38) (i := 25) (v := .int (σ.1 6 2)) rfl rfl rfl lkX7_351 (fun _ => rfl) ?_
            have b55 : 0 ≤ (σ.1 6 2).toInt ∧ (σ.1 6 2).toInt ≤ 6 := hI 6 2
            refine kw_icmp_ge (pc := 41) (i := 26) (tgt := 114) rfl rfl (fun c56 => ?_) (fun c56 => ?_)
            · replace hF := kf_nl c56 hF
              refine kw_iload (pc := 114) (i := 65) (k := 1) (n := 4) rfl rfl ?_
              exact kw_ireturn (pc := 116) (i := 66) (ty := .int) rfl rfl rfl ⟨rfl, _, rfl, hF⟩
            · replace hF := kf_p c56 hF
              refine kw_iload_n (pc := 44) (i := 27) (k := 4) (n := 1) rfl rfl rfl ?_
              refine kw_iload (pc := 45) (i := 28) (k := 0) (n := 5) rfl rfl ?_
              refine kw_ishr (pc := 47) (i := 29) rfl (fun z57 e_z57 => ?_)
              have r_z57 := kw_rng z57
              replace hF := kf_le e_z57 hF
              refine kw_iconst (pc := 48) (i := 30) (v := 1) rfl rfl ?_
              refine kw_iand (pc := 49) (i := 31) rfl (fun z58 e_z58 => ?_)
              have r_z58 := kw_rng z58
              replace hF := kf_le e_z58 hF
              refine kw_iconst (pc := 50) (i := 32) (v := 1) rfl rfl ?_
              refine kw_icmp_ne (pc := 51) (i := 33) (tgt := 58) rfl rfl (fun c59 => ?_) (fun c59 => ?_)
              · replace hF := kf_n c59 hF
                refine kw_iconst (pc := 58) (i := 36) (v := 0) rfl rfl ?_
                refine kw_istore (pc := 59) (i := 37) (n := 6) (lv' := [(6, .int 0), (5, .int x48), (4, .int x49), (3, .int 1), (0, .ref 6), (1, .int hung), (2, .int left)]) rfl (by decide) rfl ?_
                refine kw_iload (pc := 61) (i := 38) (k := 0) (n := 6) rfl rfl ?_
                refine kw_iload_n (pc := 63) (i := 39) (k := 3) (n := 3) rfl rfl rfl ?_
                refine kw_icmp_ne (pc := 64) (i := 40) (tgt := 70) rfl rfl (fun c60 => ?_) (fun c60 => ?_)
                · replace hF := kf_n c60 hF
                  refine kw_aload_n (pc := 70) (i := 42) (k := 4) (n := 0) rfl rfl rfl ?_
                  refine kw_iload_n (pc := 71) (i := 43) (k := 5) (n := 1) rfl rfl rfl ?_
                  refine kw_iconst (pc := 72) (i := 44) (v := 1) rfl rfl ?_
                  refine kw_iload (pc := 73) (i := 45) (k := 1) (n := 5) rfl rfl ?_
                  refine kw_ishl (pc := 75) (i := 46) rfl (fun z61 e_z61 => ?_)
                  have r_z61 := kw_rng z61
                  replace hF := kf_le e_z61 hF
                  refine kw_ixor (pc := 76) (i := 47) rfl (fun z62 e_z62 => ?_)
                  have r_z62 := kw_rng z62
                  replace hF := kf_le e_z62 hF
                  refine kw_iload_n (pc := 77) (i := 48) (k := 6) (n := 2) rfl rfl rfl ?_
                  refine kw_iconst (pc := 78) (i := 49) (v := 1) rfl rfl ?_
                  refine kw_isub (pc := 79) (i := 50) rfl (fun z63 e_z63 t_z63 => ?_)
                  replace hF := kf_le e_z63 hF
                  refine kw_callS (pc := 80) (i := 51) (Y := mX7_play) (As := [.ref 6, .int z62, .int z63]) (st := []) kw_hE rfl lsX7_288 arX7_play (ih σ hI z62 z63 (by first | omega | decide)) (by omega) (Nat.le_of_ble_eq_true rfl) rfl (fun v S65 p64 => ?_)
                  obtain ⟨e68, z67, rfl, ef66⟩ := p64
                  rw [e68]
                  replace hF := kf_le ef66 hF
                  have r_z67 := kw_rng z67
                  show kw_AW l (2 + (n + 1)) kw_E0 KX mX7_play (p_X7_play_6 (n + 1) σ hung left) 83 [(6, .int 0), (5, .int x48), (4, .int x49), (3, .int 1), (0, .ref 6), (1, .int hung), (2, .int left)] [.int z67] σ
                  refine kw_istore (pc := 83) (i := 52) (n := 7) (lv' := [(7, .int z67), (6, .int 0), (5, .int x48), (4, .int x49), (3, .int 1), (0, .ref 6), (1, .int hung), (2, .int left)]) rfl (by decide) rfl ?_
                  refine kw_iload_n (pc := 85) (i := 53) (k := 4) (n := 3) rfl rfl rfl ?_
                  refine kw_if_eq (pc := 86) (i := 54) (tgt := 99) rfl rfl (fun c69 => ?_) (fun c69 => ?_)
                  · exfalso; omega
                  · replace hF := kf_n c69 hF
                    refine kw_iload (pc := 89) (i := 55) (k := 3) (n := 4) rfl rfl ?_
                    refine kw_iload (pc := 91) (i := 56) (k := 0) (n := 7) rfl rfl ?_
                    refine kw_mmax (pc := 93) (i := 57) rfl jX7_352 (by omega) (Nat.le_of_ble_eq_true rfl) (fun z70 e_z70 t_z70 => ?_)
                    replace hF := kf_le e_z70 hF
                    refine kw_goto (pc := 96) (i := 58) (tgt := 106) rfl rfl ?_
                    refine kw_istore (pc := 106) (i := 62) (n := 4) (lv' := [(4, .int z70), (7, .int z67), (6, .int 0), (5, .int x48), (3, .int 1), (0, .ref 6), (1, .int hung), (2, .int left)]) rfl (by decide) rfl ?_
                    refine kw_iinc' (pc := 108) (i := 63) (k := 3) (fun z => [(5, .int z), (4, .int z70), (7, .int z67), (6, .int 0), (3, .int 1), (0, .ref 6), (1, .int hung), (2, .int left)]) rfl rfl (by decide) rfl (fun _ => rfl) (fun z71 e_z71 t_z71 => ?_)
                    replace hF := kf_le e_z71 hF
                    refine kw_goto (pc := 111) (i := 64) (tgt := 35) rfl rfl ?_
                    refine kw_sub (lv' := [(5, .int z71), (4, .int z70), (3, .int 1), (0, .ref 6), (1, .int hung), (2, .int left)]) [0, 1, 4, 5, 6, 7] rfl ?_
                    exact ih51 z71 z70 (by omega) hF (by omega)
                · exfalso; omega
              · replace hF := kf_p c59 hF
                refine kw_iconst (pc := 54) (i := 34) (v := 1) rfl rfl ?_
                refine kw_goto (pc := 55) (i := 35) (tgt := 59) rfl rfl ?_
                refine kw_istore (pc := 59) (i := 37) (n := 6) (lv' := [(6, .int 1), (5, .int x48), (4, .int x49), (3, .int 1), (0, .ref 6), (1, .int hung), (2, .int left)]) rfl (by decide) rfl ?_
                refine kw_iload (pc := 61) (i := 38) (k := 0) (n := 6) rfl rfl ?_
                refine kw_iload_n (pc := 63) (i := 39) (k := 3) (n := 3) rfl rfl rfl ?_
                refine kw_icmp_ne (pc := 64) (i := 40) (tgt := 70) rfl rfl (fun c72 => ?_) (fun c72 => ?_)
                · exfalso; omega
                · replace hF := kf_p c72 hF
                  refine kw_goto (pc := 67) (i := 41) (tgt := 108) rfl rfl ?_
                  refine kw_iinc' (pc := 108) (i := 63) (k := 1) (fun z => [(5, .int z), (6, .int 1), (4, .int x49), (3, .int 1), (0, .ref 6), (1, .int hung), (2, .int left)]) rfl rfl (by decide) rfl (fun _ => rfl) (fun z73 e_z73 t_z73 => ?_)
                  replace hF := kf_le e_z73 hF
                  refine kw_goto (pc := 111) (i := 64) (tgt := 35) rfl rfl ?_
                  refine kw_sub (lv' := [(5, .int z73), (4, .int x49), (3, .int 1), (0, .ref 6), (1, .int hung), (2, .int left)]) [0, 2, 3, 4, 5, 6] rfl ?_
                  exact ih51 z73 x49 (by omega) hF (by omega)
        exact L50 _ 0 z46 (by omega) hF (Nat.lt_succ_self _)
    · replace hF := kf_nl c7 hF
      refine kw_aload_n (pc := 4) (i := 2) (k := 0) (n := 0) rfl rfl rfl ?_
      refine kw_iload_n (pc := 5) (i := 3) (k := 1) (n := 1) rfl rfl rfl ?_
      refine kw_callV (pc := 6) (i := 4) (Y := mX0_milesOf) (a := 6) (As := [.int hung]) (st := []) kw_hE rfl rfl lvX7_238 arX0_milesOf (c_X0_milesOf_6 l σ hI hung ) (by omega) (Nat.le_of_ble_eq_true rfl) rfl (fun v S75 p74 => ?_)
      obtain ⟨e78, z77, rfl, ef76⟩ := p74
      rw [e78]
      replace hF := kf_le ef76 hF
      have r_z77 := kw_rng z77
      show kw_AW l (2 + (n + 1)) kw_E0 KX mX7_play (p_X7_play_6 (n + 1) σ hung left) 9 [(0, .ref 6), (1, .int hung), (2, .int left)] [.int z77] σ
      exact kw_ireturn (pc := 9) (i := 5) (ty := .int) rfl rfl rfl ⟨rfl, _, rfl, hF⟩
