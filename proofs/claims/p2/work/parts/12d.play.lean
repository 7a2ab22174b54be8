abbrev p_X7_play_6 (σ : kw_S) (hung : Int32) (left : Int32) : Option Value → kw_S → Prop := fun v σ' => σ' = σ ∧ ∃ r : Int32, v = some (.int r)
set_option maxRecDepth 100000 in
set_option maxHeartbeats 4000000 in
theorem c_X7_play_6 (l : Launch) : ∀ (n : Nat) (σ : kw_S) (hI : kw_I bX σ) (hung : Int32) (left : Int32) (hp0 : left.toInt ≤ n), kw_Met l (2 + n) KX mX7_play [.ref 6, .int hung, .int left] σ (p_X7_play_6 σ hung left) := by
  intro n
  induction n with
  | zero =>
    intro σ hI hung left hp0
    have r_hung := kw_rng hung
    have r_left := kw_rng left
    refine kw_Met.of (by decide) rfl tX7_play (Nat.le_of_ble_eq_true rfl) ?_
    show kw_AW l (2 + 0) kw_E0 KX mX7_play (p_X7_play_6 σ hung left) 0 [(0, .ref 6), (1, .int hung), (2, .int left)] [] σ
    refine kw_iload_n (pc := 0) (i := 0) (k := 2) (n := 2) rfl rfl rfl ?_
    refine kw_if_gt (pc := 1) (i := 1) (tgt := 10) rfl rfl (fun c1 => ?_) (fun c1 => ?_)
    · exfalso; omega
    · refine kw_aload_n (pc := 4) (i := 2) (k := 0) (n := 0) rfl rfl rfl ?_
      refine kw_iload_n (pc := 5) (i := 3) (k := 1) (n := 1) rfl rfl rfl ?_
      refine kw_callV (pc := 6) (i := 4) (Y := mX0_milesOf) (a := 6) (As := [.int hung]) (st := []) kw_hE rfl rfl lvX7_238 arX0_milesOf (c_X0_milesOf_6 l σ hI hung ) (by omega) (Nat.le_of_ble_eq_true rfl) rfl (fun v S3 p2 => ?_)
      obtain ⟨e5, z4, rfl⟩ := p2
      rw [e5]
      have r_z4 := kw_rng z4
      show kw_AW l (2 + 0) kw_E0 KX mX7_play (p_X7_play_6 σ hung left) 9 [(0, .ref 6), (1, .int hung), (2, .int left)] [.int z4] σ
      exact kw_ireturn (pc := 9) (i := 5) (ty := .int) rfl rfl rfl ⟨rfl, _, rfl⟩
  | succ n ih =>
    intro σ hI hung left hp0
    have r_hung := kw_rng hung
    have r_left := kw_rng left
    have q_0 : (0 : Int32).toInt = 0 := rfl
    have q_1 : (1 : Int32).toInt = 1 := rfl
    have q_2 : (2 : Int32).toInt = 2 := rfl
    refine kw_Met.of (by decide) rfl tX7_play (Nat.le_of_ble_eq_true rfl) ?_
    show kw_AW l (2 + (n + 1)) kw_E0 KX mX7_play (p_X7_play_6 σ hung left) 0 [(0, .ref 6), (1, .int hung), (2, .int left)] [] σ
    refine kw_iload_n (pc := 0) (i := 0) (k := 2) (n := 2) rfl rfl rfl ?_
    refine kw_if_gt (pc := 1) (i := 1) (tgt := 10) rfl rfl (fun c6 => ?_) (fun c6 => ?_)
    · refine kw_iload_n (pc := 10) (i := 6) (k := 2) (n := 2) rfl rfl rfl ?_
      refine kw_iconst (pc := 11) (i := 7) (v := 2) rfl rfl ?_
      refine kw_irem (pc := 12) (i := 8) rfl (by omega) (fun z7 e_z7 => ?_)
      have r_z7 := kw_rng z7
      have t_z7 := kw_remI left 2 z7 e_z7
      refine kw_if_ne (pc := 13) (i := 9) (tgt := 20) rfl rfl (fun c8 => ?_) (fun c8 => ?_)
      · refine kw_iconst (pc := 20) (i := 12) (v := 0) rfl rfl ?_
        refine kw_istore_n (pc := 21) (i := 13) (n := 3) (lv' := [(3, .int 0), (0, .ref 6), (1, .int hung), (2, .int left)]) rfl rfl (by decide) rfl ?_
        refine kw_aload_n (pc := 22) (i := 14) (k := 1) (n := 0) rfl rfl rfl ?_
        refine kw_iload_n (pc := 23) (i := 15) (k := 2) (n := 1) rfl rfl rfl ?_
        refine kw_iload_n (pc := 24) (i := 16) (k := 3) (n := 2) rfl rfl rfl ?_
        refine kw_iconst (pc := 25) (i := 17) (v := 1) rfl rfl ?_
        refine kw_isub (pc := 26) (i := 18) rfl (fun z9 e_z9 t_z9 => ?_)
        refine kw_callS (pc := 27) (i := 19) (Y := mX7_play) (As := [.ref 6, .int hung, .int z9]) (st := []) kw_hE rfl lsX7_288 arX7_play (ih σ hI hung z9 (by omega)) (by omega) (Nat.le_of_ble_eq_true rfl) rfl (fun v S11 p10 => ?_)
        obtain ⟨e13, z12, rfl⟩ := p10
        rw [e13]
        have r_z12 := kw_rng z12
        show kw_AW l (2 + (n + 1)) kw_E0 KX mX7_play (p_X7_play_6 σ hung left) 30 [(3, .int 0), (0, .ref 6), (1, .int hung), (2, .int left)] [.int z12] σ
        refine kw_istore (pc := 30) (i := 20) (n := 4) (lv' := [(4, .int z12), (3, .int 0), (0, .ref 6), (1, .int hung), (2, .int left)]) rfl (by decide) rfl ?_
        refine kw_iconst (pc := 32) (i := 21) (v := 0) rfl rfl ?_
        refine kw_istore (pc := 33) (i := 22) (n := 5) (lv' := [(5, .int 0), (4, .int z12), (3, .int 0), (0, .ref 6), (1, .int hung), (2, .int left)]) rfl (by decide) rfl ?_
        have L16 : ∀ (n20 : Nat) (x14 : Int32) (x15 : Int32), 0 ≤ x14.toInt → (7 - x14.toInt).toNat < n20 → kw_AW l (2 + (n + 1)) kw_E0 KX mX7_play (p_X7_play_6 σ hung left) 35 [(5, .int x14), (4, .int x15), (3, .int 0), (0, .ref 6), (1, .int hung), (2, .int left)] [] σ := by
          intro n20
          induction n20 with
          | zero => intro x14 x15 v18 m19; exact absurd m19 (Nat.not_lt_zero _)
          | succ n20 ih17 =>
            intro x14 x15 v18 m19
            have r_x14 := kw_rng x14
            have r_x15 := kw_rng x15
            refine kw_iload (pc := 35) (i := 23) (k := 0) (n := 5) rfl rfl ?_
            refine kw_aload_n (pc := 37) (i := 24) (k := 3) (n := 0) rfl rfl rfl ?_
            refine kw_get (pc := 38) (i := 25) (v := .int (σ.1 6 2)) rfl rfl rfl lkX7_351 (fun _ => rfl) ?_
            have b21 : 0 ≤ (σ.1 6 2).toInt ∧ (σ.1 6 2).toInt ≤ 6 := hI 6 2
            refine kw_icmp_ge (pc := 41) (i := 26) (tgt := 114) rfl rfl (fun c22 => ?_) (fun c22 => ?_)
            · refine kw_iload (pc := 114) (i := 65) (k := 1) (n := 4) rfl rfl ?_
              exact kw_ireturn (pc := 116) (i := 66) (ty := .int) rfl rfl rfl ⟨rfl, _, rfl⟩
            · refine kw_iload_n (pc := 44) (i := 27) (k := 4) (n := 1) rfl rfl rfl ?_
              refine kw_iload (pc := 45) (i := 28) (k := 0) (n := 5) rfl rfl ?_
              refine kw_ishr (pc := 47) (i := 29) rfl (fun z23 e_z23 => ?_)
              have r_z23 := kw_rng z23
              refine kw_iconst (pc := 48) (i := 30) (v := 1) rfl rfl ?_
              refine kw_iand (pc := 49) (i := 31) rfl (fun z24 e_z24 => ?_)
              have r_z24 := kw_rng z24
              refine kw_iconst (pc := 50) (i := 32) (v := 1) rfl rfl ?_
              refine kw_icmp_ne (pc := 51) (i := 33) (tgt := 58) rfl rfl (fun c25 => ?_) (fun c25 => ?_)
              · refine kw_iconst (pc := 58) (i := 36) (v := 0) rfl rfl ?_
                refine kw_istore (pc := 59) (i := 37) (n := 6) (lv' := [(6, .int 0), (5, .int x14), (4, .int x15), (3, .int 0), (0, .ref 6), (1, .int hung), (2, .int left)]) rfl (by decide) rfl ?_
                refine kw_iload (pc := 61) (i := 38) (k := 0) (n := 6) rfl rfl ?_
                refine kw_iload_n (pc := 63) (i := 39) (k := 3) (n := 3) rfl rfl rfl ?_
                refine kw_icmp_ne (pc := 64) (i := 40) (tgt := 70) rfl rfl (fun c26 => ?_) (fun c26 => ?_)
                · exfalso; omega
                · refine kw_goto (pc := 67) (i := 41) (tgt := 108) rfl rfl ?_
                  refine kw_iinc' (pc := 108) (i := 63) (k := 1) (fun z => [(5, .int z), (6, .int 0), (4, .int x15), (3, .int 0), (0, .ref 6), (1, .int hung), (2, .int left)]) rfl rfl (by decide) rfl (fun _ => rfl) (fun z27 e_z27 t_z27 => ?_)
                  refine kw_goto (pc := 111) (i := 64) (tgt := 35) rfl rfl ?_
                  refine kw_sub (lv' := [(5, .int z27), (4, .int x15), (3, .int 0), (0, .ref 6), (1, .int hung), (2, .int left)]) [0, 2, 3, 4, 5, 6] rfl ?_
                  exact ih17 z27 x15 (by omega) (by omega)
              · refine kw_iconst (pc := 54) (i := 34) (v := 1) rfl rfl ?_
                refine kw_goto (pc := 55) (i := 35) (tgt := 59) rfl rfl ?_
                refine kw_istore (pc := 59) (i := 37) (n := 6) (lv' := [(6, .int 1), (5, .int x14), (4, .int x15), (3, .int 0), (0, .ref 6), (1, .int hung), (2, .int left)]) rfl (by decide) rfl ?_
                refine kw_iload (pc := 61) (i := 38) (k := 0) (n := 6) rfl rfl ?_
                refine kw_iload_n (pc := 63) (i := 39) (k := 3) (n := 3) rfl rfl rfl ?_
                refine kw_icmp_ne (pc := 64) (i := 40) (tgt := 70) rfl rfl (fun c28 => ?_) (fun c28 => ?_)
                · refine kw_aload_n (pc := 70) (i := 42) (k := 4) (n := 0) rfl rfl rfl ?_
                  refine kw_iload_n (pc := 71) (i := 43) (k := 5) (n := 1) rfl rfl rfl ?_
                  refine kw_iconst (pc := 72) (i := 44) (v := 1) rfl rfl ?_
                  refine kw_iload (pc := 73) (i := 45) (k := 1) (n := 5) rfl rfl ?_
                  refine kw_ishl (pc := 75) (i := 46) rfl (fun z29 e_z29 => ?_)
                  have r_z29 := kw_rng z29
                  refine kw_ixor (pc := 76) (i := 47) rfl (fun z30 e_z30 => ?_)
                  have r_z30 := kw_rng z30
                  refine kw_iload_n (pc := 77) (i := 48) (k := 6) (n := 2) rfl rfl rfl ?_
                  refine kw_iconst (pc := 78) (i := 49) (v := 1) rfl rfl ?_
                  refine kw_isub (pc := 79) (i := 50) rfl (fun z31 e_z31 t_z31 => ?_)
                  refine kw_callS (pc := 80) (i := 51) (Y := mX7_play) (As := [.ref 6, .int z30, .int z31]) (st := []) kw_hE rfl lsX7_288 arX7_play (ih σ hI z30 z31 (by omega)) (by omega) (Nat.le_of_ble_eq_true rfl) rfl (fun v S33 p32 => ?_)
                  obtain ⟨e35, z34, rfl⟩ := p32
                  rw [e35]
                  have r_z34 := kw_rng z34
                  show kw_AW l (2 + (n + 1)) kw_E0 KX mX7_play (p_X7_play_6 σ hung left) 83 [(6, .int 1), (5, .int x14), (4, .int x15), (3, .int 0), (0, .ref 6), (1, .int hung), (2, .int left)] [.int z34] σ
                  refine kw_istore (pc := 83) (i := 52) (n := 7) (lv' := [(7, .int z34), (6, .int 1), (5, .int x14), (4, .int x15), (3, .int 0), (0, .ref 6), (1, .int hung), (2, .int left)]) rfl (by decide) rfl ?_
                  refine kw_iload_n (pc := 85) (i := 53) (k := 4) (n := 3) rfl rfl rfl ?_
                  refine kw_if_eq (pc := 86) (i := 54) (tgt := 99) rfl rfl (fun c36 => ?_) (fun c36 => ?_)
                  · refine kw_iload (pc := 99) (i := 59) (k := 3) (n := 4) rfl rfl ?_
                    refine kw_iload (pc := 101) (i := 60) (k := 0) (n := 7) rfl rfl ?_
                    refine kw_mmin (pc := 103) (i := 61) rfl jX7_357 (by omega) (Nat.le_of_ble_eq_true rfl) (fun z37 e_z37 t_z37 => ?_)
                    refine kw_istore (pc := 106) (i := 62) (n := 4) (lv' := [(4, .int z37), (7, .int z34), (6, .int 1), (5, .int x14), (3, .int 0), (0, .ref 6), (1, .int hung), (2, .int left)]) rfl (by decide) rfl ?_
                    refine kw_iinc' (pc := 108) (i := 63) (k := 3) (fun z => [(5, .int z), (4, .int z37), (7, .int z34), (6, .int 1), (3, .int 0), (0, .ref 6), (1, .int hung), (2, .int left)]) rfl rfl (by decide) rfl (fun _ => rfl) (fun z38 e_z38 t_z38 => ?_)
                    refine kw_goto (pc := 111) (i := 64) (tgt := 35) rfl rfl ?_
                    refine kw_sub (lv' := [(5, .int z38), (4, .int z37), (3, .int 0), (0, .ref 6), (1, .int hung), (2, .int left)]) [0, 1, 4, 5, 6, 7] rfl ?_
                    exact ih17 z38 z37 (by omega) (by omega)
                  · exfalso; omega
                · exfalso; omega
        exact L16 _ 0 z12 (by omega) (Nat.lt_succ_self _)
      · refine kw_iconst (pc := 16) (i := 10) (v := 1) rfl rfl ?_
        refine kw_goto (pc := 17) (i := 11) (tgt := 21) rfl rfl ?_
        refine kw_istore_n (pc := 21) (i := 13) (n := 3) (lv' := [(3, .int 1), (0, .ref 6), (1, .int hung), (2, .int left)]) rfl rfl (by decide) rfl ?_
        refine kw_aload_n (pc := 22) (i := 14) (k := 1) (n := 0) rfl rfl rfl ?_
        refine kw_iload_n (pc := 23) (i := 15) (k := 2) (n := 1) rfl rfl rfl ?_
        refine kw_iload_n (pc := 24) (i := 16) (k := 3) (n := 2) rfl rfl rfl ?_
        refine kw_iconst (pc := 25) (i := 17) (v := 1) rfl rfl ?_
        refine kw_isub (pc := 26) (i := 18) rfl (fun z39 e_z39 t_z39 => ?_)
        refine kw_callS (pc := 27) (i := 19) (Y := mX7_play) (As := [.ref 6, .int hung, .int z39]) (st := []) kw_hE rfl lsX7_288 arX7_play (ih σ hI hung z39 (by omega)) (by omega) (Nat.le_of_ble_eq_true rfl) rfl (fun v S41 p40 => ?_)
        obtain ⟨e43, z42, rfl⟩ := p40
        rw [e43]
        have r_z42 := kw_rng z42
        show kw_AW l (2 + (n + 1)) kw_E0 KX mX7_play (p_X7_play_6 σ hung left) 30 [(3, .int 1), (0, .ref 6), (1, .int hung), (2, .int left)] [.int z42] σ
        refine kw_istore (pc := 30) (i := 20) (n := 4) (lv' := [(4, .int z42), (3, .int 1), (0, .ref 6), (1, .int hung), (2, .int left)]) rfl (by decide) rfl ?_
        refine kw_iconst (pc := 32) (i := 21) (v := 0) rfl rfl ?_
        refine kw_istore (pc := 33) (i := 22) (n := 5) (lv' := [(5, .int 0), (4, .int z42), (3, .int 1), (0, .ref 6), (1, .int hung), (2, .int left)]) rfl (by decide) rfl ?_
        have L46 : ∀ (n50 : Nat) (x44 : Int32) (x45 : Int32), 0 ≤ x44.toInt → (7 - x44.toInt).toNat < n50 → kw_AW l (2 + (n + 1)) kw_E0 KX mX7_play (p_X7_play_6 σ hung left) 35 [(5, .int x44), (4, .int x45), (3, .int 1), (0, .ref 6), (1, .int hung), (2, .int left)] [] σ := by
          intro n50
          induction n50 with
          | zero => intro x44 x45 v48 m49; exact absurd m49 (Nat.not_lt_zero _)
          | succ n50 ih47 =>
            intro x44 x45 v48 m49
            have r_x44 := kw_rng x44
            have r_x45 := kw_rng x45
            refine kw_iload (pc := 35) (i := 23) (k := 0) (n := 5) rfl rfl ?_
            refine kw_aload_n (pc := 37) (i := 24) (k := 3) (n := 0) rfl rfl rfl ?_
            refine kw_get (pc := 38) (i := 25) (v := .int (σ.1 6 2)) rfl rfl rfl lkX7_351 (fun _ => rfl) ?_
            have b51 : 0 ≤ (σ.1 6 2).toInt ∧ (σ.1 6 2).toInt ≤ 6 := hI 6 2
            refine kw_icmp_ge (pc := 41) (i := 26) (tgt := 114) rfl rfl (fun c52 => ?_) (fun c52 => ?_)
            · refine kw_iload (pc := 114) (i := 65) (k := 1) (n := 4) rfl rfl ?_
              exact kw_ireturn (pc := 116) (i := 66) (ty := .int) rfl rfl rfl ⟨rfl, _, rfl⟩
            · refine kw_iload_n (pc := 44) (i := 27) (k := 4) (n := 1) rfl rfl rfl ?_
              refine kw_iload (pc := 45) (i := 28) (k := 0) (n := 5) rfl rfl ?_
              refine kw_ishr (pc := 47) (i := 29) rfl (fun z53 e_z53 => ?_)
              have r_z53 := kw_rng z53
              refine kw_iconst (pc := 48) (i := 30) (v := 1) rfl rfl ?_
              refine kw_iand (pc := 49) (i := 31) rfl (fun z54 e_z54 => ?_)
              have r_z54 := kw_rng z54
              refine kw_iconst (pc := 50) (i := 32) (v := 1) rfl rfl ?_
              refine kw_icmp_ne (pc := 51) (i := 33) (tgt := 58) rfl rfl (fun c55 => ?_) (fun c55 => ?_)
              · refine kw_iconst (pc := 58) (i := 36) (v := 0) rfl rfl ?_
                refine kw_istore (pc := 59) (i := 37) (n := 6) (lv' := [(6, .int 0), (5, .int x44), (4, .int x45), (3, .int 1), (0, .ref 6), (1, .int hung), (2, .int left)]) rfl (by decide) rfl ?_
                refine kw_iload (pc := 61) (i := 38) (k := 0) (n := 6) rfl rfl ?_
                refine kw_iload_n (pc := 63) (i := 39) (k := 3) (n := 3) rfl rfl rfl ?_
                refine kw_icmp_ne (pc := 64) (i := 40) (tgt := 70) rfl rfl (fun c56 => ?_) (fun c56 => ?_)
                · refine kw_aload_n (pc := 70) (i := 42) (k := 4) (n := 0) rfl rfl rfl ?_
                  refine kw_iload_n (pc := 71) (i := 43) (k := 5) (n := 1) rfl rfl rfl ?_
                  refine kw_iconst (pc := 72) (i := 44) (v := 1) rfl rfl ?_
                  refine kw_iload (pc := 73) (i := 45) (k := 1) (n := 5) rfl rfl ?_
                  refine kw_ishl (pc := 75) (i := 46) rfl (fun z57 e_z57 => ?_)
                  have r_z57 := kw_rng z57
                  refine kw_ixor (pc := 76) (i := 47) rfl (fun z58 e_z58 => ?_)
                  have r_z58 := kw_rng z58
                  refine kw_iload_n (pc := 77) (i := 48) (k := 6) (n := 2) rfl rfl rfl ?_
                  refine kw_iconst (pc := 78) (i := 49) (v := 1) rfl rfl ?_
                  refine kw_isub (pc := 79) (i := 50) rfl (fun z59 e_z59 t_z59 => ?_)
                  refine kw_callS (pc := 80) (i := 51) (Y := mX7_play) (As := [.ref 6, .int z58, .int z59]) (st := []) kw_hE rfl lsX7_288 arX7_play (ih σ hI z58 z59 (by omega)) (by omega) (Nat.le_of_ble_eq_true rfl) rfl (fun v S61 p60 => ?_)
                  obtain ⟨e63, z62, rfl⟩ := p60
                  rw [e63]
                  have r_z62 := kw_rng z62
                  show kw_AW l (2 + (n + 1)) kw_E0 KX mX7_play (p_X7_play_6 σ hung left) 83 [(6, .int 0), (5, .int x44), (4, .int x45), (3, .int 1), (0, .ref 6), (1, .int hung), (2, .int left)] [.int z62] σ
                  refine kw_istore (pc := 83) (i := 52) (n := 7) (lv' := [(7, .int z62), (6, .int 0), (5, .int x44), (4, .int x45), (3, .int 1), (0, .ref 6), (1, .int hung), (2, .int left)]) rfl (by decide) rfl ?_
                  refine kw_iload_n (pc := 85) (i := 53) (k := 4) (n := 3) rfl rfl rfl ?_
                  refine kw_if_eq (pc := 86) (i := 54) (tgt := 99) rfl rfl (fun c64 => ?_) (fun c64 => ?_)
                  · exfalso; omega
                  · refine kw_iload (pc := 89) (i := 55) (k := 3) (n := 4) rfl rfl ?_
                    refine kw_iload (pc := 91) (i := 56) (k := 0) (n := 7) rfl rfl ?_
                    refine kw_mmax (pc := 93) (i := 57) rfl jX7_352 (by omega) (Nat.le_of_ble_eq_true rfl) (fun z65 e_z65 t_z65 => ?_)
                    refine kw_goto (pc := 96) (i := 58) (tgt := 106) rfl rfl ?_
                    refine kw_istore (pc := 106) (i := 62) (n := 4) (lv' := [(4, .int z65), (7, .int z62), (6, .int 0), (5, .int x44), (3, .int 1), (0, .ref 6), (1, .int hung), (2, .int left)]) rfl (by decide) rfl ?_
                    refine kw_iinc' (pc := 108) (i := 63) (k := 3) (fun z => [(5, .int z), (4, .int z65), (7, .int z62), (6, .int 0), (3, .int 1), (0, .ref 6), (1, .int hung), (2, .int left)]) rfl rfl (by decide) rfl (fun _ => rfl) (fun z66 e_z66 t_z66 => ?_)
                    refine kw_goto (pc := 111) (i := 64) (tgt := 35) rfl rfl ?_
                    refine kw_sub (lv' := [(5, .int z66), (4, .int z65), (3, .int 1), (0, .ref 6), (1, .int hung), (2, .int left)]) [0, 1, 4, 5, 6, 7] rfl ?_
                    exact ih47 z66 z65 (by omega) (by omega)
                · exfalso; omega
              · refine kw_iconst (pc := 54) (i := 34) (v := 1) rfl rfl ?_
                refine kw_goto (pc := 55) (i := 35) (tgt := 59) rfl rfl ?_
                refine kw_istore (pc := 59) (i := 37) (n := 6) (lv' := [(6, .int 1), (5, .int x44), (4, .int x45), (3, .int 1), (0, .ref 6), (1, .int hung), (2, .int left)]) rfl (by decide) rfl ?_
                refine kw_iload (pc := 61) (i := 38) (k := 0) (n := 6) rfl rfl ?_
                refine kw_iload_n (pc := 63) (i := 39) (k := 3) (n := 3) rfl rfl rfl ?_
                refine kw_icmp_ne (pc := 64) (i := 40) (tgt := 70) rfl rfl (fun c67 => ?_) (fun c67 => ?_)
                · exfalso; omega
                · refine kw_goto (pc := 67) (i := 41) (tgt := 108) rfl rfl ?_
                  refine kw_iinc' (pc := 108) (i := 63) (k := 1) (fun z => [(5, .int z), (6, .int 1), (4, .int x45), (3, .int 1), (0, .ref 6), (1, .int hung), (2, .int left)]) rfl rfl (by decide) rfl (fun _ => rfl) (fun z68 e_z68 t_z68 => ?_)
                  refine kw_goto (pc := 111) (i := 64) (tgt := 35) rfl rfl ?_
                  refine kw_sub (lv' := [(5, .int z68), (4, .int x45), (3, .int 1), (0, .ref 6), (1, .int hung), (2, .int left)]) [0, 2, 3, 4, 5, 6] rfl ?_
                  exact ih47 z68 x45 (by omega) (by omega)
        exact L46 _ 0 z42 (by omega) (Nat.lt_succ_self _)
    · refine kw_aload_n (pc := 4) (i := 2) (k := 0) (n := 0) rfl rfl rfl ?_
      refine kw_iload_n (pc := 5) (i := 3) (k := 1) (n := 1) rfl rfl rfl ?_
      refine kw_callV (pc := 6) (i := 4) (Y := mX0_milesOf) (a := 6) (As := [.int hung]) (st := []) kw_hE rfl rfl lvX7_238 arX0_milesOf (c_X0_milesOf_6 l σ hI hung ) (by omega) (Nat.le_of_ble_eq_true rfl) rfl (fun v S70 p69 => ?_)
      obtain ⟨e72, z71, rfl⟩ := p69
      rw [e72]
      have r_z71 := kw_rng z71
      show kw_AW l (2 + (n + 1)) kw_E0 KX mX7_play (p_X7_play_6 σ hung left) 9 [(0, .ref 6), (1, .int hung), (2, .int left)] [.int z71] σ
      exact kw_ireturn (pc := 9) (i := 5) (ty := .int) rfl rfl rfl ⟨rfl, _, rfl⟩
