abbrev p_X7_play_6 (σ : kw_S) (hung : Int32) (left : Int32) : Option Value → kw_S → Prop := fun v σ' => σ' = σ ∧ ∃ r : Int32, v = some (.int r)
set_option maxRecDepth 100000 in
set_option maxHeartbeats 4000000 in
theorem c_X7_play_6 (l : Launch) : ∀ (n : Nat) (σ : kw_S) (hI : kw_I bX σ) (hung : Int32) (left : Int32) (hp0 : left.toInt ≤ n), kw_Met l (2 + n) KX mX7_play [.ref 6, .int hung, .int left] σ (p_X7_play_6 σ hung left) := by
  intro n
  induction n with
  | zero =>
    intro σ hI hung left hp0
    have r_hung := kw_rng hung
    have r_left := kw_rng left
    refine kw_Met.of (by decide) rfl tX7_play (Nat.le_of_ble_eq_true rfl) ?_
    show kw_AW l (2 + 0) kw_E0 KX mX7_play (p_X7_play_6 σ hung left) 0 [(0, .ref 6), (1, .int hung), (2, .int left)] [] σ
    refine kw_iload_n (pc := 0) (i := 0) (k := 2) (n := 2) rfl rfl rfl ?_
    refine kw_if_gt (pc := 1) (i := 1) (tgt := 10) rfl rfl (fun c1 => ?_) (fun c1 => ?_)
    · exfalso; omega
    · refine kw_aload_n (pc := 4) (i := 2) (k := 0) (n := 0) rfl rfl rfl ?_
      refine kw_iload_n (pc := 5) (i := 3) (k := 1) (n := 1) rfl rfl rfl ?_
      refine kw_callV (pc := 6) (i := 4) (Y := mX0_milesOf) (a := 6) (As := [.int hung]) (st := []) kw_hE rfl rfl lvX7_238 arX0_milesOf (c_X0_milesOf_6 l σ hI hung ) (by omega) (Nat.le_of_ble_eq_true rfl) rfl (fun v S3 p2 => ?_)
      obtain ⟨e5, z4, rfl⟩ := p2
      rw [e5]
      have r_z4 := kw_rng z4
      show kw_AW l (2 + 0) kw_E0 KX mX7_play (p_X7_play_6 σ hung left) 9 [(0, .ref 6), (1, .int hung), (2, .int left)] [.int z4] σ
      exact kw_ireturn (pc := 9) (i := 5) (ty := .int) rfl rfl rfl ⟨rfl, _, rfl⟩
  | succ n ih =>
    intro σ hI hung left hp0
    have r_hung := kw_rng hung
    have r_left := kw_rng left
    have q_0 : (0 : Int32).toInt = 0 := rfl
    have q_1 : (1 : Int32).toInt = 1 := rfl
    have q_2 : (2 : Int32).toInt = 2 := rfl
    refine kw_Met.of (by decide) rfl tX7_play (Nat.le_of_ble_eq_true rfl) ?_
    show kw_AW l (2 + (n + 1)) kw_E0 KX mX7_play (p_X7_play_6 σ hung left) 0 [(0, .ref 6), (1, .int hung), (2, .int left)] [] σ
    refine kw_iload_n (pc := 0) (i := 0) (k := 2) (n := 2) rfl rfl rfl ?_
    refine kw_if_gt (pc := 1) (i := 1) (tgt := 10) rfl rfl (fun c6 => ?_) (fun c6 => ?_)
    · refine kw_iload_n (pc := 10) (i := 6) (k := 2) (n := 2) rfl rfl rfl ?_
      refine kw_iconst (pc := 11) (i := 7) (v := 2) rfl rfl ?_
      refine kw_irem (pc := 12) (i := 8) rfl (by omega) (fun z7 e_z7 => ?_)
      have r_z7 := kw_rng z7
      have t_z7 := kw_remI left 2 z7 e_z7
      refine kw_if_ne (pc := 13) (i := 9) (tgt := 20) rfl rfl (fun c8 => ?_) (fun c8 => ?_)
      · refine kw_iconst (pc := 20) (i := 12) (v := 0) rfl rfl ?_
        refine kw_istore_n (pc := 21) (i := 13) (n := 3) (lv' := [(3, .int 0), (0, .ref 6), (1, .int hung), (2, .int left)]) rfl rfl (by decide) rfl ?_
        refine kw_aload_n (pc := 22) (i := 14) (k := 1) (n := 0) rfl rfl rfl ?_
        refine kw_iload_n (pc := 23) (i := 15) (k := 2) (n := 1) rfl rfl rfl ?_
        refine kw_iload_n (pc := 24) (i := 16) (k := 3) (n := 2) rfl rfl rfl ?_
        refine kw_iconst (pc := 25) (i := 17) (v := 1) rfl rfl ?_
        refine kw_isub (pc := 26) (i := 18) rfl (fun z9 e_z9 t_z9 => ?_)
        refine kw_callS (pc := 27) (i := 19) (Y := mX7_play) (As := [.ref 6, .int hung, .int z9]) (st := []) kw_hE rfl lsX7_288 arX7_play (ih σ hI hung z9 (by omega)) (by omega) (Nat.le_of_ble_eq_true rfl) rfl (fun v S11 p10 => ?_)
        obtain ⟨e13, z12, rfl⟩ := p10
        rw [e13]
        have r_z12 := kw_rng z12
        show kw_AW l (2 + (n + 1)) kw_E0 KX mX7_play (p_X7_play_6 σ hung left) 30 [(3, .int 0), (0, .ref 6), (1, .int hung), (2, .int left)] [.int z12] σ
        refine kw_istore (pc := 30) (i := 20) (n := 4) (lv' := [(4, .int z12), (3, .int 0), (0, .ref 6), (1, .int hung), (2, .int left)]) rfl (by decide) rfl ?_
        refine kw_iconst (pc := 32) (i := 21) (v := 0) rfl rfl ?_
        refine kw_istore (pc := 33) (i := 22) (n := 5) (lv' := [(5, .int 0), (4, .int z12), (3, .int 0), (0, .ref 6), (1, .int hung), (2, .int left)]) rfl (by decide) rfl ?_
        have L16 : ∀ (n20 : Nat) (x14 : Int32) (x15 : Int32), 0 ≤ x14.toInt → (7 - x14.toInt).toNat < n20 → kw_AW l (2 + (n + 1)) kw_E0 KX mX7_play (p_X7_play_6 σ hung left) 35 [(5, .int x14), (4, .int x15), (3, .int 0), (0, .ref 6), (1, .int hung), (2, .int left)] [] σ := by
          intro n20
          induction n20 with
          | zero => intro x14 x15 v18 m19; exact absurd m19 (Nat.not_lt_zero _)
          | succ n20 ih17 =>
            intro x14 x15 v18 m19
            have r_x14 := kw_rng x14
            have r_x15 := kw_rng x15
            refine kw_iload (pc := 35) (i := 23) (k := 0) (n := 5) rfl rfl ?_
            refine kw_aload_n (pc := 37) (i := 24) (k := 3) (n := 0) rfl rfl rfl ?_
            refine kw_get (pc := 38) (i := 25) (v := .int (σ.1 6 2)) rfl rfl rfl lkX7_351 (fun _ => rfl) ?_
            have b21 : 0 ≤ (σ.1 6 2).toInt ∧ (σ.1 6 2).toInt ≤ 6 := hI 6 2
            refine kw_icmp_ge (pc := 41) (i := 26) (tgt := 114) rfl rfl (fun c22 => ?_) (fun c22 => ?_)
            · refine kw_iload (pc := 114) (i := 65) (k := 1) (n := 4) rfl rfl ?_
              exact kw_ireturn (pc := 116) (i := 66) (ty := .int) rfl rfl rfl ⟨rfl, _, rfl⟩
            · refine kw_iload_n (pc := 44) (i := 27) (k := 4) (n := 1) rfl rfl rfl ?_
              refine kw_iload (pc := 45) (i := 28) (k := 0) (n := 5) rfl rfl ?_
              refine kw_ishr (pc := 47) (i := 29) rfl (fun z23 e_z23 => ?_)
              have r_z23 := kw_rng z23
              refine kw_iconst (pc := 48) (i := 30) (v := 1) rfl rfl ?_
              refine kw_iand (pc := 49) (i := 31) rfl (fun z24 e_z24 => ?_)
              have r_z24 := kw_rng z24
              refine kw_iconst (pc := 50) (i := 32) (v := 1) rfl rfl ?_
              refine kw_icmp_ne (pc := 51) (i := 33) (tgt := 58) rfl rfl (fun c25 => ?_) (fun c25 => ?_)
              · refine kw_iconst (pc := 58) (i := 36) (v := 0) rfl rfl ?_
                refine kw_istore (pc := 59) (i := 37) (n := 6) (lv' := [(6, .int 0), (5, .int x14), (4, .int x15), (3, .int 0), (0, .ref 6), (1, .int hung), (2, .int left)]) rfl (by decide) rfl ?_
                refine kw_iload (pc := 61) (i := 38) (k := 0) (n := 6) rfl rfl ?_
                refine kw_iload_n (pc := 63) (i := 39) (k := 3) (n := 3) rfl rfl rfl ?_
                refine kw_icmp_ne (pc := 64) (i := 40) (tgt := 70) rfl rfl (fun c26 => ?_) (fun c26 => ?_)
                · refine kw_aload_n (pc := 70) (i := 42) (k := 4) (n := 0) rfl rfl rfl ?_
                  refine kw_iload_n (pc := 71) (i := 43) (k := 5) (n := 1) rfl rfl rfl ?_
                  refine kw_iconst (pc := 72) (i := 44) (v := 1) rfl rfl ?_
                  refine kw_iload (pc := 73) (i := 45) (k := 1) (n := 5) rfl rfl ?_
                  refine kw_ishl (pc := 75) (i := 46) rfl (fun z27 e_z27 => ?_)
                  have r_z27 := kw_rng z27
                  refine kw_ixor (pc := 76) (i := 47) rfl (fun z28 e_z28 => ?_)
                  have r_z28 := kw_rng z28
                  refine kw_iload_n (pc := 77) (i := 48) (k := 6) (n := 2) rfl rfl rfl ?_
                  refine kw_iconst (pc := 78) (i := 49) (v := 1) rfl rfl ?_
                  refine kw_isub (pc := 79) (i := 50) rfl (fun z29 e_z29 t_z29 => ?_)
                  refine kw_callS (pc := 80) (i := 51) (Y := mX7_play) (As := [.ref 6, .int z28, .int z29]) (st := []) kw_hE rfl lsX7_288 arX7_play (ih σ hI z28 z29 (by omega)) (by omega) (Nat.le_of_ble_eq_true rfl) rfl (fun v S31 p30 => ?_)
                  obtain ⟨e33, z32, rfl⟩ := p30
                  rw [e33]
                  have r_z32 := kw_rng z32
                  show kw_AW l (2 + (n + 1)) kw_E0 KX mX7_play (p_X7_play_6 σ hung left) 83 [(6, .int 0), (5, .int x14), (4, .int x15), (3, .int 0), (0, .ref 6), (1, .int hung), (2, .int left)] [.int z32] σ
                  refine kw_istore (pc := 83) (i := 52) (n := 7) (lv' := [(7, .int z32), (6, .int 0), (5, .int x14), (4, .int x15), (3, .int 0), (0, .ref 6), (1, .int hung), (2, .int left)]) rfl (by decide) rfl ?_
                  refine kw_iload_n (pc := 85) (i := 53) (k := 4) (n := 3) rfl rfl rfl ?_
                  refine kw_if_eq (pc := 86) (i := 54) (tgt := 99) rfl rfl (fun c34 => ?_) (fun c34 => ?_)
                  · refine kw_iload (pc := 99) (i := 59) (k := 3) (n := 4) rfl rfl ?_
                    refine kw_iload (pc := 101) (i := 60) (k := 0) (n := 7) rfl rfl ?_
                    refine kw_mmin (pc := 103) (i := 61) rfl jX7_357 (by omega) (Nat.le_of_ble_eq_true rfl) (fun z35 e_z35 t_z35 => ?_)
                    refine kw_istore (pc := 106) (i := 62) (n := 4) (lv' := [(4, .int z35), (7, .int z32), (6, .int 0), (5, .int x14), (3, .int 0), (0, .ref 6), (1, .int hung), (2, .int left)]) rfl (by decide) rfl ?_
                    refine kw_iinc' (pc := 108) (i := 63) (k := 3) (fun z => [(5, .int z), (4, .int z35), (7, .int z32), (6, .int 0), (3, .int 0), (0, .ref 6), (1, .int hung), (2, .int left)]) rfl rfl (by decide) rfl (fun _ => rfl) (fun z36 e_z36 t_z36 => ?_)
                    refine kw_goto (pc := 111) (i := 64) (tgt := 35) rfl rfl ?_
                    refine kw_sub (lv' := [(5, .int z36), (4, .int z35), (3, .int 0), (0, .ref 6), (1, .int hung), (2, .int left)]) [0, 1, 4, 5, 6, 7] rfl ?_
                    exact ih17 z36 z35 (by omega) (by omega)
                  · refine kw_iload (pc := 89) (i := 55) (k := 3) (n := 4) rfl rfl ?_
                    refine kw_iload (pc := 91) (i := 56) (k := 0) (n := 7) rfl rfl ?_
                    refine kw_mmax (pc := 93) (i := 57) rfl jX7_352 (by omega) (Nat.le_of_ble_eq_true rfl) (fun z37 e_z37 t_z37 => ?_)
                    refine kw_goto (pc := 96) (i := 58) (tgt := 106) rfl rfl ?_
                    refine kw_istore (pc := 106) (i := 62) (n := 4) (lv' := [(4, .int z37), (7, .int z32), (6, .int 0), (5, .int x14), (3, .int 0), (0, .ref 6), (1, .int hung), (2, .int left)]) rfl (by decide) rfl ?_
                    refine kw_iinc' (pc := 108) (i := 63) (k := 3) (fun z => [(5, .int z), (4, .int z37), (7, .int z32), (6, .int 0), (3, .int 0), (0, .ref 6), (1, .int hung), (2, .int left)]) rfl rfl (by decide) rfl (fun _ => rfl) (fun z38 e_z38 t_z38 => ?_)
                    refine kw_goto (pc := 111) (i := 64) (tgt := 35) rfl rfl ?_
                    refine kw_sub (lv' := [(5, .int z38), (4, .int z37), (3, .int 0), (0, .ref 6), (1, .int hung), (2, .int left)]) [0, 1, 4, 5, 6, 7] rfl ?_
                    exact ih17 z38 z37 (by omega) (by omega)
                · refine kw_goto (pc := 67) (i := 41) (tgt := 108) rfl rfl ?_
                  refine kw_iinc' (pc := 108) (i := 63) (k := 1) (fun z => [(5, .int z), (6, .int 0), (4, .int x15), (3, .int 0), (0, .ref 6), (1, .int hung), (2, .int left)]) rfl rfl (by decide) rfl (fun _ => rfl) (fun z39 e_z39 t_z39 => ?_)
                  refine kw_goto (pc := 111) (i := 64) (tgt := 35) rfl rfl ?_
                  refine kw_sub (lv' := [(5, .int z39), (4, .int x15), (3, .int 0), (0, .ref 6), (1, .int hung), (2, .int left)]) [0, 2, 3, 4, 5, 6] rfl ?_
                  exact ih17 z39 x15 (by omega) (by omega)
              · refine kw_iconst (pc := 54) (i := 34) (v := 1) rfl rfl ?_
                refine kw_goto (pc := 55) (i := 35) (tgt := 59) rfl rfl ?_
                refine kw_istore (pc := 59) (i := 37) (n := 6) (lv' := [(6, .int 1), (5, .int x14), (4, .int x15), (3, .int 0), (0, .ref 6), (1, .int hung), (2, .int left)]) rfl (by decide) rfl ?_
                refine kw_iload (pc := 61) (i := 38) (k := 0) (n := 6) rfl rfl ?_
                refine kw_iload_n (pc := 63) (i := 39) (k := 3) (n := 3) rfl rfl rfl ?_
                refine kw_icmp_ne (pc := 64) (i := 40) (tgt := 70) rfl rfl (fun c40 => ?_) (fun c40 => ?_)
                · refine kw_aload_n (pc := 70) (i := 42) (k := 4) (n := 0) rfl rfl rfl ?_
                  refine kw_iload_n (pc := 71) (i := 43) (k := 5) (n := 1) rfl rfl rfl ?_
                  refine kw_iconst (pc := 72) (i := 44) (v := 1) rfl rfl ?_
                  refine kw_iload (pc := 73) (i := 45) (k := 1) (n := 5) rfl rfl ?_
                  refine kw_ishl (pc := 75) (i := 46) rfl (fun z41 e_z41 => ?_)
                  have r_z41 := kw_rng z41
                  refine kw_ixor (pc := 76) (i := 47) rfl (fun z42 e_z42 => ?_)
                  have r_z42 := kw_rng z42
                  refine kw_iload_n (pc := 77) (i := 48) (k := 6) (n := 2) rfl rfl rfl ?_
                  refine kw_iconst (pc := 78) (i := 49) (v := 1) rfl rfl ?_
                  refine kw_isub (pc := 79) (i := 50) rfl (fun z43 e_z43 t_z43 => ?_)
                  refine kw_callS (pc := 80) (i := 51) (Y := mX7_play) (As := [.ref 6, .int z42, .int z43]) (st := []) kw_hE rfl lsX7_288 arX7_play (ih σ hI z42 z43 (by omega)) (by omega) (Nat.le_of_ble_eq_true rfl) rfl (fun v S45 p44 => ?_)
                  obtain ⟨e47, z46, rfl⟩ := p44
                  rw [e47]
                  have r_z46 := kw_rng z46
                  show kw_AW l (2 + (n + 1)) kw_E0 KX mX7_play (p_X7_play_6 σ hung left) 83 [(6, .int 1), (5, .int x14), (4, .int x15), (3, .int 0), (0, .ref 6), (1, .int hung), (2, .int left)] [.int z46] σ
                  refine kw_istore (pc := 83) (i := 52) (n := 7) (lv' := [(7, .int z46), (6, .int 1), (5, .int x14), (4, .int x15), (3, .int 0), (0, .ref 6), (1, .int hung), (2, .int left)]) rfl (by decide) rfl ?_
                  refine kw_iload_n (pc := 85) (i := 53) (k := 4) (n := 3) rfl rfl rfl ?_
                  refine kw_if_eq (pc := 86) (i := 54) (tgt := 99) rfl rfl (fun c48 => ?_) (fun c48 => ?_)
                  · refine kw_iload (pc := 99) (i := 59) (k := 3) (n := 4) rfl rfl ?_
                    refine kw_iload (pc := 101) (i := 60) (k := 0) (n := 7) rfl rfl ?_
                    refine kw_mmin (pc := 103) (i := 61) rfl jX7_357 (by omega) (Nat.le_of_ble_eq_true rfl) (fun z49 e_z49 t_z49 => ?_)
                    refine kw_istore (pc := 106) (i := 62) (n := 4) (lv' := [(4, .int z49), (7, .int z46), (6, .int 1), (5, .int x14), (3, .int 0), (0, .ref 6), (1, .int hung), (2, .int left)]) rfl (by decide) rfl ?_
                    refine kw_iinc' (pc := 108) (i := 63) (k := 3) (fun z => [(5, .int z), (4, .int z49), (7, .int z46), (6, .int 1), (3, .int 0), (0, .ref 6), (1, .int hung), (2, .int left)]) rfl rfl (by decide) rfl (fun _ => rfl) (fun z50 e_z50 t_z50 => ?_)
                    refine kw_goto (pc := 111) (i := 64) (tgt := 35) rfl rfl ?_
                    refine kw_sub (lv' := [(5, .int z50), (4, .int z49), (3, .int 0), (0, .ref 6), (1, .int hung), (2, .int left)]) [0, 1, 4, 5, 6, 7] rfl ?_
                    exact ih17 z50 z49 (by omega) (by omega)
                  · refine kw_iload (pc := 89) (i := 55) (k := 3) (n := 4) rfl rfl ?_
                    refine kw_iload (pc := 91) (i := 56) (k := 0) (n := 7) rfl rfl ?_
                    refine kw_mmax (pc := 93) (i := 57) rfl jX7_352 (by omega) (Nat.le_of_ble_eq_true rfl) (fun z51 e_z51 t_z51 => ?_)
                    refine kw_goto (pc := 96) (i := 58) (tgt := 106) rfl rfl ?_
                    refine kw_istore (pc := 106) (i := 62) (n := 4) (lv' := [(4, .int z51), (7, .int z46), (6, .int 1), (5, .int x14), (3, .int 0), (0, .ref 6), (1, .int hung), (2, .int left)]) rfl (by decide) rfl ?_
                    refine kw_iinc' (pc := 108) (i := 63) (k := 3) (fun z => [(5, .int z), (4, .int z51), (7, .int z46), (6, .int 1), (3, .int 0), (0, .ref 6), (1, .int hung), (2, .int left)]) rfl rfl (by decide) rfl (fun _ => rfl) (fun z52 e_z52 t_z52 => ?_)
                    refine kw_goto (pc := 111) (i := 64) (tgt := 35) rfl rfl ?_
                    refine kw_sub (lv' := [(5, .int z52), (4, .int z51), (3, .int 0), (0, .ref 6), (1, .int hung), (2, .int left)]) [0, 1, 4, 5, 6, 7] rfl ?_
                    exact ih17 z52 z51 (by omega) (by omega)
                · refine kw_goto (pc := 67) (i := 41) (tgt := 108) rfl rfl ?_
                  refine kw_iinc' (pc := 108) (i := 63) (k := 1) (fun z => [(5, .int z), (6, .int 1), (4, .int x15), (3, .int 0), (0, .ref 6), (1, .int hung), (2, .int left)]) rfl rfl (by decide) rfl (fun _ => rfl) (fun z53 e_z53 t_z53 => ?_)
                  refine kw_goto (pc := 111) (i := 64) (tgt := 35) rfl rfl ?_
                  refine kw_sub (lv' := [(5, .int z53), (4, .int x15), (3, .int 0), (0, .ref 6), (1, .int hung), (2, .int left)]) [0, 2, 3, 4, 5, 6] rfl ?_
                  exact ih17 z53 x15 (by omega) (by omega)
        exact L16 _ 0 z12 (by omega) (Nat.lt_succ_self _)
      · refine kw_iconst (pc := 16) (i := 10) (v := 1) rfl rfl ?_
        refine kw_goto (pc := 17) (i := 11) (tgt := 21) rfl rfl ?_
        refine kw_istore_n (pc := 21) (i := 13) (n := 3) (lv' := [(3, .int 1), (0, .ref 6), (1, .int hung), (2, .int left)]) rfl rfl (by decide) rfl ?_
        refine kw_aload_n (pc := 22) (i := 14) (k := 1) (n := 0) rfl rfl rfl ?_
        refine kw_iload_n (pc := 23) (i := 15) (k := 2) (n := 1) rfl rfl rfl ?_
        refine kw_iload_n (pc := 24) (i := 16) (k := 3) (n := 2) rfl rfl rfl ?_
        refine kw_iconst (pc := 25) (i := 17) (v := 1) rfl rfl ?_
        refine kw_isub (pc := 26) (i := 18) rfl (fun z54 e_z54 t_z54 => ?_)
        refine kw_callS (pc := 27) (i := 19) (Y := mX7_play) (As := [.ref 6, .int hung, .int z54]) (st := []) kw_hE rfl lsX7_288 arX7_play (ih σ hI hung z54 (by omega)) (by omega) (Nat.le_of_ble_eq_true rfl) rfl (fun v S56 p55 => ?_)
        obtain ⟨e58, z57, rfl⟩ := p55
        rw [e58]
        have r_z57 := kw_rng z57
        show kw_AW l (2 + (n + 1)) kw_E0 KX mX7_play (p_X7_play_6 σ hung left) 30 [(3, .int 1), (0, .ref 6), (1, .int hung), (2, .int left)] [.int z57] σ
        refine kw_istore (pc := 30) (i := 20) (n := 4) (lv' := [(4, .int z57), (3, .int 1), (0, .ref 6), (1, .int hung), (2, .int left)]) rfl (by decide) rfl ?_
        refine kw_iconst (pc := 32) (i := 21) (v := 0) rfl rfl ?_
        refine kw_istore (pc := 33) (i := 22) (n := 5) (lv' := [(5, .int 0), (4, .int z57), (3, .int 1), (0, .ref 6), (1, .int hung), (2, .int left)]) rfl (by decide) rfl ?_
        have L61 : ∀ (n65 : Nat) (x59 : Int32) (x60 : Int32), 0 ≤ x59.toInt → (7 - x59.toInt).toNat < n65 → kw_AW l (2 + (n + 1)) kw_E0 KX mX7_play (p_X7_play_6 σ hung left) 35 [(5, .int x59), (4, .int x60), (3, .int 1), (0, .ref 6), (1, .int hung), (2, .int left)] [] σ := by
          intro n65
          induction n65 with
          | zero => intro x59 x60 v63 m64; exact absurd m64 (Nat.not_lt_zero _)
          | succ n65 ih62 =>
            intro x59 x60 v63 m64
            have r_x59 := kw_rng x59
            have r_x60 := kw_rng x60
            refine kw_iload (pc := 35) (i := 23) (k := 0) (n := 5) rfl rfl ?_
            refine kw_aload_n (pc := 37) (i := 24) (k := 3) (n := 0) rfl rfl rfl ?_
            refine kw_get (pc := 38) (i := 25) (v := .int (σ.1 6 2)) rfl rfl rfl lkX7_351 (fun _ => rfl) ?_
            have b66 : 0 ≤ (σ.1 6 2).toInt ∧ (σ.1 6 2).toInt ≤ 6 := hI 6 2
            refine kw_icmp_ge (pc := 41) (i := 26) (tgt := 114) rfl rfl (fun c67 => ?_) (fun c67 => ?_)
            · refine kw_iload (pc := 114) (i := 65) (k := 1) (n := 4) rfl rfl ?_
              exact kw_ireturn (pc := 116) (i := 66) (ty := .int) rfl rfl rfl ⟨rfl, _, rfl⟩
            · refine kw_iload_n (pc := 44) (i := 27) (k := 4) (n := 1) rfl rfl rfl ?_
              refine kw_iload (pc := 45) (i := 28) (k := 0) (n := 5) rfl rfl ?_
              refine kw_ishr (pc := 47) (i := 29) rfl (fun z68 e_z68 => ?_)
              have r_z68 := kw_rng z68
              refine kw_iconst (pc := 48) (i := 30) (v := 1) rfl rfl ?_
              refine kw_iand (pc := 49) (i := 31) rfl (fun z69 e_z69 => ?_)
              have r_z69 := kw_rng z69
              refine kw_iconst (pc := 50) (i := 32) (v := 1) rfl rfl ?_
              refine kw_icmp_ne (pc := 51) (i := 33) (tgt := 58) rfl rfl (fun c70 => ?_) (fun c70 => ?_)
              · refine kw_iconst (pc := 58) (i := 36) (v := 0) rfl rfl ?_
                refine kw_istore (pc := 59) (i := 37) (n := 6) (lv' := [(6, .int 0), (5, .int x59), (4, .int x60), (3, .int 1), (0, .ref 6), (1, .int hung), (2, .int left)]) rfl (by decide) rfl ?_
                refine kw_iload (pc := 61) (i := 38) (k := 0) (n := 6) rfl rfl ?_
                refine kw_iload_n (pc := 63) (i := 39) (k := 3) (n := 3) rfl rfl rfl ?_
                refine kw_icmp_ne (pc := 64) (i := 40) (tgt := 70) rfl rfl (fun c71 => ?_) (fun c71 => ?_)
                · refine kw_aload_n (pc := 70) (i := 42) (k := 4) (n := 0) rfl rfl rfl ?_
                  refine kw_iload_n (pc := 71) (i := 43) (k := 5) (n := 1) rfl rfl rfl ?_
                  refine kw_iconst (pc := 72) (i := 44) (v := 1) rfl rfl ?_
                  refine kw_iload (pc := 73) (i := 45) (k := 1) (n := 5) rfl rfl ?_
                  refine kw_ishl (pc := 75) (i := 46) rfl (fun z72 e_z72 => ?_)
                  have r_z72 := kw_rng z72
                  refine kw_ixor (pc := 76) (i := 47) rfl (fun z73 e_z73 => ?_)
                  have r_z73 := kw_rng z73
                  refine kw_iload_n (pc := 77) (i := 48) (k := 6) (n := 2) rfl rfl rfl ?_
                  refine kw_iconst (pc := 78) (i := 49) (v := 1) rfl rfl ?_
                  refine kw_isub (pc := 79) (i := 50) rfl (fun z74 e_z74 t_z74 => ?_)
                  refine kw_callS (pc := 80) (i := 51) (Y := mX7_play) (As := [.ref 6, .int z73, .int z74]) (st := []) kw_hE rfl lsX7_288 arX7_play (ih σ hI z73 z74 (by omega)) (by omega) (Nat.le_of_ble_eq_true rfl) rfl (fun v S76 p75 => ?_)
                  obtain ⟨e78, z77, rfl⟩ := p75
                  rw [e78]
                  have r_z77 := kw_rng z77
                  show kw_AW l (2 + (n + 1)) kw_E0 KX mX7_play (p_X7_play_6 σ hung left) 83 [(6, .int 0), (5, .int x59), (4, .int x60), (3, .int 1), (0, .ref 6), (1, .int hung), (2, .int left)] [.int z77] σ
                  refine kw_istore (pc := 83) (i := 52) (n := 7) (lv' := [(7, .int z77), (6, .int 0), (5, .int x59), (4, .int x60), (3, .int 1), (0, .ref 6), (1, .int hung), (2, .int left)]) rfl (by decide) rfl ?_
                  refine kw_iload_n (pc := 85) (i := 53) (k := 4) (n := 3) rfl rfl rfl ?_
                  refine kw_if_eq (pc := 86) (i := 54) (tgt := 99) rfl rfl (fun c79 => ?_) (fun c79 => ?_)
                  · refine kw_iload (pc := 99) (i := 59) (k := 3) (n := 4) rfl rfl ?_
                    refine kw_iload (pc := 101) (i := 60) (k := 0) (n := 7) rfl rfl ?_
                    refine kw_mmin (pc := 103) (i := 61) rfl jX7_357 (by omega) (Nat.le_of_ble_eq_true rfl) (fun z80 e_z80 t_z80 => ?_)
                    refine kw_istore (pc := 106) (i := 62) (n := 4) (lv' := [(4, .int z80), (7, .int z77), (6, .int 0), (5, .int x59), (3, .int 1), (0, .ref 6), (1, .int hung), (2, .int left)]) rfl (by decide) rfl ?_
                    refine kw_iinc' (pc := 108) (i := 63) (k := 3) (fun z => [(5, .int z), (4, .int z80), (7, .int z77), (6, .int 0), (3, .int 1), (0, .ref 6), (1, .int hung), (2, .int left)]) rfl rfl (by decide) rfl (fun _ => rfl) (fun z81 e_z81 t_z81 => ?_)
                    refine kw_goto (pc := 111) (i := 64) (tgt := 35) rfl rfl ?_
                    refine kw_sub (lv' := [(5, .int z81), (4, .int z80), (3, .int 1), (0, .ref 6), (1, .int hung), (2, .int left)]) [0, 1, 4, 5, 6, 7] rfl ?_
                    exact ih62 z81 z80 (by omega) (by omega)
                  · refine kw_iload (pc := 89) (i := 55) (k := 3) (n := 4) rfl rfl ?_
                    refine kw_iload (pc := 91) (i := 56) (k := 0) (n := 7) rfl rfl ?_
                    refine kw_mmax (pc := 93) (i := 57) rfl jX7_352 (by omega) (Nat.le_of_ble_eq_true rfl) (fun z82 e_z82 t_z82 => ?_)
                    refine kw_goto (pc := 96) (i := 58) (tgt := 106) rfl rfl ?_
                    refine kw_istore (pc := 106) (i := 62) (n := 4) (lv' := [(4, .int z82), (7, .int z77), (6, .int 0), (5, .int x59), (3, .int 1), (0, .ref 6), (1, .int hung), (2, .int left)]) rfl (by decide) rfl ?_
                    refine kw_iinc' (pc := 108) (i := 63) (k := 3) (fun z => [(5, .int z), (4, .int z82), (7, .int z77), (6, .int 0), (3, .int 1), (0, .ref 6), (1, .int hung), (2, .int left)]) rfl rfl (by decide) rfl (fun _ => rfl) (fun z83 e_z83 t_z83 => ?_)
                    refine kw_goto (pc := 111) (i := 64) (tgt := 35) rfl rfl ?_
                    refine kw_sub (lv' := [(5, .int z83), (4, .int z82), (3, .int 1), (0, .ref 6), (1, .int hung), (2, .int left)]) [0, 1, 4, 5, 6, 7] rfl ?_
                    exact ih62 z83 z82 (by omega) (by omega)
                · refine kw_goto (pc := 67) (i := 41) (tgt := 108) rfl rfl ?_
                  refine kw_iinc' (pc := 108) (i := 63) (k := 1) (fun z => [(5, .int z), (6, .int 0), (4, .int x60), (3, .int 1), (0, .ref 6), (1, .int hung), (2, .int left)]) rfl rfl (by decide) rfl (fun _ => rfl) (fun z84 e_z84 t_z84 => ?_)
                  refine kw_goto (pc := 111) (i := 64) (tgt := 35) rfl rfl ?_
                  refine kw_sub (lv' := [(5, .int z84), (4, .int x60), (3, .int 1), (0, .ref 6), (1, .int hung), (2, .int left)]) [0, 2, 3, 4, 5, 6] rfl ?_
                  exact ih62 z84 x60 (by omega) (by omega)
              · refine kw_iconst (pc := 54) (i := 34) (v := 1) rfl rfl ?_
                refine kw_goto (pc := 55) (i := 35) (tgt := 59) rfl rfl ?_
                refine kw_istore (pc := 59) (i := 37) (n := 6) (lv' := [(6, .int 1), (5, .int x59), (4, .int x60), (3, .int 1), (0, .ref 6), (1, .int hung), (2, .int left)]) rfl (by decide) rfl ?_
                refine kw_iload (pc := 61) (i := 38) (k := 0) (n := 6) rfl rfl ?_
                refine kw_iload_n (pc := 63) (i := 39) (k := 3) (n := 3) rfl rfl rfl ?_
                refine kw_icmp_ne (pc := 64) (i := 40) (tgt := 70) rfl rfl (fun c85 => ?_) (fun c85 => ?_)
                · refine kw_aload_n (pc := 70) (i := 42) (k := 4) (n := 0) rfl rfl rfl ?_
                  refine kw_iload_n (pc := 71) (i := 43) (k := 5) (n := 1) rfl rfl rfl ?_
                  refine kw_iconst (pc := 72) (i := 44) (v := 1) rfl rfl ?_
                  refine kw_iload (pc := 73) (i := 45) (k := 1) (n := 5) rfl rfl ?_
                  refine kw_ishl (pc := 75) (i := 46) rfl (fun z86 e_z86 => ?_)
                  have r_z86 := kw_rng z86
                  refine kw_ixor (pc := 76) (i := 47) rfl (fun z87 e_z87 => ?_)
                  have r_z87 := kw_rng z87
                  refine kw_iload_n (pc := 77) (i := 48) (k := 6) (n := 2) rfl rfl rfl ?_
                  refine kw_iconst (pc := 78) (i := 49) (v := 1) rfl rfl ?_
                  refine kw_isub (pc := 79) (i := 50) rfl (fun z88 e_z88 t_z88 => ?_)
                  refine kw_callS (pc := 80) (i := 51) (Y := mX7_play) (As := [.ref 6, .int z87, .int z88]) (st := []) kw_hE rfl lsX7_288 arX7_play (ih σ hI z87 z88 (by omega)) (by omega) (Nat.le_of_ble_eq_true rfl) rfl (fun v S90 p89 => ?_)
                  obtain ⟨e92, z91, rfl⟩ := p89
                  rw [e92]
                  have r_z91 := kw_rng z91
                  show kw_AW l (2 + (n + 1)) kw_E0 KX mX7_play (p_X7_play_6 σ hung left) 83 [(6, .int 1), (5, .int x59), (4, .int x60), (3, .int 1), (0, .ref 6), (1, .int hung), (2, .int left)] [.int z91] σ
                  refine kw_istore (pc := 83) (i := 52) (n := 7) (lv' := [(7, .int z91), (6, .int 1), (5, .int x59), (4, .int x60), (3, .int 1), (0, .ref 6), (1, .int hung), (2, .int left)]) rfl (by decide) rfl ?_
                  refine kw_iload_n (pc := 85) (i := 53) (k := 4) (n := 3) rfl rfl rfl ?_
                  refine kw_if_eq (pc := 86) (i := 54) (tgt := 99) rfl rfl (fun c93 => ?_) (fun c93 => ?_)
                  · refine kw_iload (pc := 99) (i := 59) (k := 3) (n := 4) rfl rfl ?_
                    refine kw_iload (pc := 101) (i := 60) (k := 0) (n := 7) rfl rfl ?_
                    refine kw_mmin (pc := 103) (i := 61) rfl jX7_357 (by omega) (Nat.le_of_ble_eq_true rfl) (fun z94 e_z94 t_z94 => ?_)
                    refine kw_istore (pc := 106) (i := 62) (n := 4) (lv' := [(4, .int z94), (7, .int z91), (6, .int 1), (5, .int x59), (3, .int 1), (0, .ref 6), (1, .int hung), (2, .int left)]) rfl (by decide) rfl ?_
                    refine kw_iinc' (pc := 108) (i := 63) (k := 3) (fun z => [(5, .int z), (4, .int z94), (7, .int z91), (6, .int 1), (3, .int 1), (0, .ref 6), (1, .int hung), (2, .int left)]) rfl rfl (by decide) rfl (fun _ => rfl) (fun z95 e_z95 t_z95 => ?_)
                    refine kw_goto (pc := 111) (i := 64) (tgt := 35) rfl rfl ?_
                    refine kw_sub (lv' := [(5, .int z95), (4, .int z94), (3, .int 1), (0, .ref 6), (1, .int hung), (2, .int left)]) [0, 1, 4, 5, 6, 7] rfl ?_
                    exact ih62 z95 z94 (by omega) (by omega)
                  · refine kw_iload (pc := 89) (i := 55) (k := 3) (n := 4) rfl rfl ?_
                    refine kw_iload (pc := 91) (i := 56) (k := 0) (n := 7) rfl rfl ?_
                    refine kw_mmax (pc := 93) (i := 57) rfl jX7_352 (by omega) (Nat.le_of_ble_eq_true rfl) (fun z96 e_z96 t_z96 => ?_)
                    refine kw_goto (pc := 96) (i := 58) (tgt := 106) rfl rfl ?_
                    refine kw_istore (pc := 106) (i := 62) (n := 4) (lv' := [(4, .int z96), (7, .int z91), (6, .int 1), (5, .int x59), (3, .int 1), (0, .ref 6), (1, .int hung), (2, .int left)]) rfl (by decide) rfl ?_
                    refine kw_iinc' (pc := 108) (i := 63) (k := 3) (fun z => [(5, .int z), (4, .int z96), (7, .int z91), (6, .int 1), (3, .int 1), (0, .ref 6), (1, .int hung), (2, .int left)]) rfl rfl (by decide) rfl (fun _ => rfl) (fun z97 e_z97 t_z97 => ?_)
                    refine kw_goto (pc := 111) (i := 64) (tgt := 35) rfl rfl ?_
                    refine kw_sub (lv' := [(5, .int z97), (4, .int z96), (3, .int 1), (0, .ref 6), (1, .int hung), (2, .int left)]) [0, 1, 4, 5, 6, 7] rfl ?_
                    exact ih62 z97 z96 (by omega) (by omega)
                · refine kw_goto (pc := 67) (i := 41) (tgt := 108) rfl rfl ?_
                  refine kw_iinc' (pc := 108) (i := 63) (k := 1) (fun z => [(5, .int z), (6, .int 1), (4, .int x60), (3, .int 1), (0, .ref 6), (1, .int hung), (2, .int left)]) rfl rfl (by decide) rfl (fun _ => rfl) (fun z98 e_z98 t_z98 => ?_)
                  refine kw_goto (pc := 111) (i := 64) (tgt := 35) rfl rfl ?_
                  refine kw_sub (lv' := [(5, .int z98), (4, .int x60), (3, .int 1), (0, .ref 6), (1, .int hung), (2, .int left)]) [0, 2, 3, 4, 5, 6] rfl ?_
                  exact ih62 z98 x60 (by omega) (by omega)
        exact L61 _ 0 z57 (by omega) (Nat.lt_succ_self _)
    · refine kw_aload_n (pc := 4) (i := 2) (k := 0) (n := 0) rfl rfl rfl ?_
      refine kw_iload_n (pc := 5) (i := 3) (k := 1) (n := 1) rfl rfl rfl ?_
      refine kw_callV (pc := 6) (i := 4) (Y := mX0_milesOf) (a := 6) (As := [.int hung]) (st := []) kw_hE rfl rfl lvX7_238 arX0_milesOf (c_X0_milesOf_6 l σ hI hung ) (by omega) (Nat.le_of_ble_eq_true rfl) rfl (fun v S100 p99 => ?_)
      obtain ⟨e102, z101, rfl⟩ := p99
      rw [e102]
      have r_z101 := kw_rng z101
      show kw_AW l (2 + (n + 1)) kw_E0 KX mX7_play (p_X7_play_6 σ hung left) 9 [(0, .ref 6), (1, .int hung), (2, .int left)] [.int z101] σ
      exact kw_ireturn (pc := 9) (i := 5) (ty := .int) rfl rfl rfl ⟨rfl, _, rfl⟩
