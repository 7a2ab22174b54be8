section
set_option maxHeartbeats 4000000 in
set_option maxRecDepth 100000 in
theorem k_X0_init (l : Launch) (D : va_G) (cI cII cC : ClassId) (h0 sz : Nat) : Met l yX0_init (.code yX0_init cX0_init 1 none :: kw_ws) (kc_rm 2 2 128) (kc_Pre D cI cII cC sz [.ref h0] [(h0, .inr (0, [.null, .null, .int 0, .int 0]))]) (va_Qv (fun _ : Unit => True) (fun _ t => ∃ q1 q3 : Nat, va_P D vwCl [(h0, .inr (0, [.ref q1, .ref q3, .int 0, .int 0])), (q1, .inl (cI, 64, .inl (fun _ => 0))), (q3, .inl (cI, 64, .inl (fun _ => 0)))] t.heap ∧ va_D (va_A [(h0, .inr (0, [.null, .null, .int 0, .int 0]))] sz) [(h0, .inr (0, [.ref q1, .ref q3, .int 0, .int 0])), (q1, .inl (cI, 64, .inl (fun _ => 0))), (q3, .inl (cI, 64, .inl (fun _ => 0)))]) (va_A [(h0, .inr (0, [.null, .null, .int 0, .int 0]))] sz)) 2 128 (va_A [(h0, .inr (0, [.null, .null, .int 0, .int 0]))] sz) := by
  refine Met.ofW (cc := cX0_init) (maxL := 1) (ret := none) (by decide) rfl ?_
  intro p e s m args below meth c s₁ B hml hv
  obtain ⟨rfl, hsz, hP, hK, hD0, hSt⟩ := hv
  have hx := B.exec
  have hb := B.bytes
  have hr := B.returns
  have hts := atoms_spec (ws := .code yX0_init cX0_init 1 none :: kw_ws) B.pre
  have htk := fun w (hw : w ∈ kw_ws) => hts w (List.mem_cons_of_mem _ hw)
  have hown : s.vm.findClass RX0 = some m.cls := findClass_of_methodNamed B.named
  have hlocks := B.notSynchronized
  have hin : meth.name = "<init>" := (name_of_methodNamed B.named B.method).1
  subst hsz
  have hD := hD0.self (sz := s.heap.size)
  generalize hAe : va_A [(h0, .inr (0, [.null, .null, .int 0, .int 0]))] s.heap.size = A at hD ⊢
  have hA : ∀ q : Nat, s.heap.size ≤ q → A q := fun q h => by rw [← hAe]; exact Or.inr h
  have hS : va_S A s.heap s.heap [] := va_S.rf
  have hP : va_P D vwCl [(h0, .inr (0, [.null, .null, .int 0, .int 0]))] s.heap := hP
  have hl := lv_entry ([.ref h0]) (n := 1) (Nat.le_of_ble_eq_true rfl)
  rw [lg_entry_eq]
  generalize (lg_sl ([.ref h0]) ++ List.replicate (1 - (lg_sl ([.ref h0])).length) Slot.unset).toArray = ls at hl ⊢
  have hl : lv_has ls 1 [(0, .ref h0)] := hl
  refine lv_aload_n hx hb dX0_init_0 rfl (lv_at hl 0 rfl) ?_
  refine W.objInit hx hb hown (htk _ kmX0_3) (htk _ wIObj) (htk _ wCObj) rfl (by rw [hml]; exact hl.1) rfl dX0_init_1 (Nat.le_of_ble_eq_true rfl) (Nat.le_of_ble_eq_true rfl) ?_
  refine W.eq (g2 := F0 m 4 ls []) rfl ?_
  refine lv_aload_n hx hb dX0_init_4 rfl (lv_at hl 0 rfl) ?_
  refine lv_bipush (v := 64) hx hb dX0_init_5 (by decide) ?_
  refine va_newa (atype := .int) (ty := .int) (a0 := (64, .inl (fun _ => 0))) (N' := 64) hx hb (htk _ wArr) rfl hK hP hD hS hA (fun _ => rfl) (by decide) rfl (by decide) (Nat.le_of_ble_eq_true rfl) (Nat.le_of_ble_eq_true rfl) dX0_init_7 (fun q1 c2 H hK1 hP hD hS => ?_)
  obtain rfl : cI = c2 := kc_same hK1 0 3 rfl rfl
  have hPD : kc_PD D A H [(h0, .inr (0, [.null, .null, .int 0, .int 0])), (q1, .inl (cI, 64, .inl (fun _ => 0)))] := ⟨hP, hD⟩
  replace hP := hPD.1
  replace hD := hPD.2
  clear hPD
  refine W.widen (k := 1) (n := 64) (Nat.le_of_ble_eq_true rfl) (Nat.le_of_ble_eq_true rfl) ?_
  refine va_putF (D := D) (ci := 0) (v := .ref q1) (ty := .array .int) (C := RX0) (T := TX0) (N := 4) hx hb htk inW0 tyX0 tyX0_ok nmX0 hown hK hP hD hS 0 rfl rfl 0 (by decide) (htk _ kfX0_9) (fun _ h9 => h9) rfl hin rfl (by decide +kernel) rfl rfl (Nat.le_of_ble_eq_true rfl) dX0_init_9 (fun H locs hP hD hS => ?_)
  have hPD : kc_PD D A H [(h0, .inr (0, [.ref q1, .null, .int 0, .int 0])), (q1, .inl (cI, 64, .inl (fun _ => 0)))] := ⟨hP, hD⟩
  replace hP := hPD.1
  replace hD := hPD.2
  clear hPD
  refine lv_aload_n hx hb dX0_init_12 rfl (lv_at hl 0 rfl) ?_
  refine lv_bipush (v := 64) hx hb dX0_init_13 (by decide) ?_
  refine va_newa (atype := .int) (ty := .int) (a0 := (64, .inl (fun _ => 0))) (N' := 64) hx hb (htk _ wArr) rfl hK hP hD hS hA (fun _ => rfl) (by decide) rfl (by decide) (Nat.le_of_ble_eq_true rfl) (Nat.le_of_ble_eq_true rfl) dX0_init_15 (fun q3 c4 H hK1 hP hD hS => ?_)
  obtain rfl : cI = c4 := kc_same hK1 0 3 rfl rfl
  have hPD : kc_PD D A H [(h0, .inr (0, [.ref q1, .null, .int 0, .int 0])), (q1, .inl (cI, 64, .inl (fun _ => 0))), (q3, .inl (cI, 64, .inl (fun _ => 0)))] := ⟨hP, hD⟩
  replace hP := hPD.1
  replace hD := hPD.2
  clear hPD
  refine W.widen (k := 2) (n := 128) (Nat.le_of_ble_eq_true rfl) (Nat.le_of_ble_eq_true rfl) ?_
  refine va_putF (D := D) (ci := 0) (v := .ref q3) (ty := .array .int) (C := RX0) (T := TX0) (N := 4) hx hb htk inW0 tyX0 tyX0_ok nmX0 hown hK hP hD hS 0 rfl rfl 1 (by decide) (htk _ kfX0_15) (fun _ h9 => h9) rfl hin rfl (by decide +kernel) rfl rfl (Nat.le_of_ble_eq_true rfl) dX0_init_17 (fun H locs hP hD hS => ?_)
  have hPD : kc_PD D A H [(h0, .inr (0, [.ref q1, .ref q3, .int 0, .int 0])), (q1, .inl (cI, 64, .inl (fun _ => 0))), (q3, .inl (cI, 64, .inl (fun _ => 0)))] := ⟨hP, hD⟩
  replace hP := hPD.1
  replace hD := hPD.2
  clear hPD
  exact W.vret hx hb hr (fun t ht hW => ⟨⟨(), rfl, trivial, q1, q3, by rw [ht]; exact hP, hD⟩, hS.F ht⟩) hS.2.2 dX0_init_20
set_option maxHeartbeats 4000000 in
set_option maxRecDepth 100000 in
theorem k_X1_init (l : Launch) (D : va_G) (cI cII cC : ClassId) (h0 sz : Nat) : Met l yX1_init (.code yX1_init cX1_init 1 none :: kw_ws) (kc_rm 2 5 32) (kc_Pre D cI cII cC sz [.ref h0] [(h0, .inr (1, [.null, .null, .null, .null, .null, .int 0, .int 0]))]) (va_Qv (fun _ : Unit => True) (fun _ t => ∃ q1 q3 q5 q7 q9 : Nat, va_P D vwCl [(h0, .inr (1, [.ref q1, .ref q3, .ref q5, .ref q7, .ref q9, .int 0, .int 0])), (q1, .inl (cI, 6, .inl (fun _ => 0))), (q3, .inl (cI, 6, .inl (fun _ => 0))), (q5, .inl (cI, 6, .inl (fun _ => 0))), (q7, .inl (cI, 6, .inl (fun _ => 0))), (q9, .inl (cI, 8, .inl (fun _ => 0)))] t.heap ∧ va_D (va_A [(h0, .inr (1, [.null, .null, .null, .null, .null, .int 0, .int 0]))] sz) [(h0, .inr (1, [.ref q1, .ref q3, .ref q5, .ref q7, .ref q9, .int 0, .int 0])), (q1, .inl (cI, 6, .inl (fun _ => 0))), (q3, .inl (cI, 6, .inl (fun _ => 0))), (q5, .inl (cI, 6, .inl (fun _ => 0))), (q7, .inl (cI, 6, .inl (fun _ => 0))), (q9, .inl (cI, 8, .inl (fun _ => 0)))]) (va_A [(h0, .inr (1, [.null, .null, .null, .null, .null, .int 0, .int 0]))] sz)) 5 32 (va_A [(h0, .inr (1, [.null, .null, .null, .null, .null, .int 0, .int 0]))] sz) := by
  refine Met.ofW (cc := cX1_init) (maxL := 1) (ret := none) (by decide) rfl ?_
  intro p e s m args below meth c s₁ B hml hv
  obtain ⟨rfl, hsz, hP, hK, hD0, hSt⟩ := hv
  have hx := B.exec
  have hb := B.bytes
  have hr := B.returns
  have hts := atoms_spec (ws := .code yX1_init cX1_init 1 none :: kw_ws) B.pre
  have htk := fun w (hw : w ∈ kw_ws) => hts w (List.mem_cons_of_mem _ hw)
  have hown : s.vm.findClass RX1 = some m.cls := findClass_of_methodNamed B.named
  have hlocks := B.notSynchronized
  have hin : meth.name = "<init>" := (name_of_methodNamed B.named B.method).1
  subst hsz
  have hD := hD0.self (sz := s.heap.size)
  generalize hAe : va_A [(h0, .inr (1, [.null, .null, .null, .null, .null, .int 0, .int 0]))] s.heap.size = A at hD ⊢
  have hA : ∀ q : Nat, s.heap.size ≤ q → A q := fun q h => by rw [← hAe]; exact Or.inr h
  have hS : va_S A s.heap s.heap [] := va_S.rf
  have hP : va_P D vwCl [(h0, .inr (1, [.null, .null, .null, .null, .null, .int 0, .int 0]))] s.heap := hP
  have hl := lv_entry ([.ref h0]) (n := 1) (Nat.le_of_ble_eq_true rfl)
  rw [lg_entry_eq]
  generalize (lg_sl ([.ref h0]) ++ List.replicate (1 - (lg_sl ([.ref h0])).length) Slot.unset).toArray = ls at hl ⊢
  have hl : lv_has ls 1 [(0, .ref h0)] := hl
  refine lv_aload_n hx hb dX1_init_0 rfl (lv_at hl 0 rfl) ?_
  refine W.objInit hx hb hown (htk _ kmX1_3) (htk _ wIObj) (htk _ wCObj) rfl (by rw [hml]; exact hl.1) rfl dX1_init_1 (Nat.le_of_ble_eq_true rfl) (Nat.le_of_ble_eq_true rfl) ?_
  refine W.eq (g2 := F0 m 4 ls []) rfl ?_
  refine lv_aload_n hx hb dX1_init_4 rfl (lv_at hl 0 rfl) ?_
  refine lv_bipush (v := 6) hx hb dX1_init_5 (by decide) ?_
  refine va_newa (atype := .int) (ty := .int) (a0 := (6, .inl (fun _ => 0))) (N' := 6) hx hb (htk _ wArr) rfl hK hP hD hS hA (fun _ => rfl) (by decide) rfl (by decide) (Nat.le_of_ble_eq_true rfl) (Nat.le_of_ble_eq_true rfl) dX1_init_7 (fun q1 c2 H hK1 hP hD hS => ?_)
  obtain rfl : cI = c2 := kc_same hK1 0 3 rfl rfl
  have hPD : kc_PD D A H [(h0, .inr (1, [.null, .null, .null, .null, .null, .int 0, .int 0])), (q1, .inl (cI, 6, .inl (fun _ => 0)))] := ⟨hP, hD⟩
  replace hP := hPD.1
  replace hD := hPD.2
  clear hPD
  refine W.widen (k := 1) (n := 6) (Nat.le_of_ble_eq_true rfl) (Nat.le_of_ble_eq_true rfl) ?_
  refine va_putF (D := D) (ci := 1) (v := .ref q1) (ty := .array .int) (C := RX1) (T := TX1) (N := 7) hx hb htk inW1 tyX1 tyX1_ok nmX1 hown hK hP hD hS 0 rfl rfl 0 (by decide) (htk _ kfX1_9) (fun _ h9 => h9) rfl hin rfl (by decide +kernel) rfl rfl (Nat.le_of_ble_eq_true rfl) dX1_init_9 (fun H locs hP hD hS => ?_)
  have hPD : kc_PD D A H [(h0, .inr (1, [.ref q1, .null, .null, .null, .null, .int 0, .int 0])), (q1, .inl (cI, 6, .inl (fun _ => 0)))] := ⟨hP, hD⟩
  replace hP := hPD.1
  replace hD := hPD.2
  clear hPD
  refine lv_aload_n hx hb dX1_init_12 rfl (lv_at hl 0 rfl) ?_
  refine lv_bipush (v := 6) hx hb dX1_init_13 (by decide) ?_
  refine va_newa (atype := .int) (ty := .int) (a0 := (6, .inl (fun _ => 0))) (N' := 6) hx hb (htk _ wArr) rfl hK hP hD hS hA (fun _ => rfl) (by decide) rfl (by decide) (Nat.le_of_ble_eq_true rfl) (Nat.le_of_ble_eq_true rfl) dX1_init_15 (fun q3 c4 H hK1 hP hD hS => ?_)
  obtain rfl : cI = c4 := kc_same hK1 0 3 rfl rfl
  have hPD : kc_PD D A H [(h0, .inr (1, [.ref q1, .null, .null, .null, .null, .int 0, .int 0])), (q1, .inl (cI, 6, .inl (fun _ => 0))), (q3, .inl (cI, 6, .inl (fun _ => 0)))] := ⟨hP, hD⟩
  replace hP := hPD.1
  replace hD := hPD.2
  clear hPD
  refine W.widen (k := 2) (n := 12) (Nat.le_of_ble_eq_true rfl) (Nat.le_of_ble_eq_true rfl) ?_
  refine va_putF (D := D) (ci := 1) (v := .ref q3) (ty := .array .int) (C := RX1) (T := TX1) (N := 7) hx hb htk inW1 tyX1 tyX1_ok nmX1 hown hK hP hD hS 0 rfl rfl 1 (by decide) (htk _ kfX1_15) (fun _ h9 => h9) rfl hin rfl (by decide +kernel) rfl rfl (Nat.le_of_ble_eq_true rfl) dX1_init_17 (fun H locs hP hD hS => ?_)
  have hPD : kc_PD D A H [(h0, .inr (1, [.ref q1, .ref q3, .null, .null, .null, .int 0, .int 0])), (q1, .inl (cI, 6, .inl (fun _ => 0))), (q3, .inl (cI, 6, .inl (fun _ => 0)))] := ⟨hP, hD⟩
  replace hP := hPD.1
  replace hD := hPD.2
  clear hPD
  refine lv_aload_n hx hb dX1_init_20 rfl (lv_at hl 0 rfl) ?_
  refine lv_bipush (v := 6) hx hb dX1_init_21 (by decide) ?_
  refine va_newa (atype := .int) (ty := .int) (a0 := (6, .inl (fun _ => 0))) (N' := 6) hx hb (htk _ wArr) rfl hK hP hD hS hA (fun _ => rfl) (by decide) rfl (by decide) (Nat.le_of_ble_eq_true rfl) (Nat.le_of_ble_eq_true rfl) dX1_init_23 (fun q5 c6 H hK1 hP hD hS => ?_)
  obtain rfl : cI = c6 := kc_same hK1 0 3 rfl rfl
  have hPD : kc_PD D A H [(h0, .inr (1, [.ref q1, .ref q3, .null, .null, .null, .int 0, .int 0])), (q1, .inl (cI, 6, .inl (fun _ => 0))), (q3, .inl (cI, 6, .inl (fun _ => 0))), (q5, .inl (cI, 6, .inl (fun _ => 0)))] := ⟨hP, hD⟩
  replace hP := hPD.1
  replace hD := hPD.2
  clear hPD
  refine W.widen (k := 3) (n := 18) (Nat.le_of_ble_eq_true rfl) (Nat.le_of_ble_eq_true rfl) ?_
  refine va_putF (D := D) (ci := 1) (v := .ref q5) (ty := .array .int) (C := RX1) (T := TX1) (N := 7) hx hb htk inW1 tyX1 tyX1_ok nmX1 hown hK hP hD hS 0 rfl rfl 2 (by decide) (htk _ kfX1_18) (fun _ h9 => h9) rfl hin rfl (by decide +kernel) rfl rfl (Nat.le_of_ble_eq_true rfl) dX1_init_25 (fun H locs hP hD hS => ?_)
  have hPD : kc_PD D A H [(h0, .inr (1, [.ref q1, .ref q3, .ref q5, .null, .null, .int 0, .int 0])), (q1, .inl (cI, 6, .inl (fun _ => 0))), (q3, .inl (cI, 6, .inl (fun _ => 0))), (q5, .inl (cI, 6, .inl (fun _ => 0)))] := ⟨hP, hD⟩
  replace hP := hPD.1
  replace hD := hPD.2
  clear hPD
  refine lv_aload_n hx hb dX1_init_28 rfl (lv_at hl 0 rfl) ?_
  refine lv_bipush (v := 6) hx hb dX1_init_29 (by decide) ?_
  refine va_newa (atype := .int) (ty := .int) (a0 := (6, .inl (fun _ => 0))) (N' := 6) hx hb (htk _ wArr) rfl hK hP hD hS hA (fun _ => rfl) (by decide) rfl (by decide) (Nat.le_of_ble_eq_true rfl) (Nat.le_of_ble_eq_true rfl) dX1_init_31 (fun q7 c8 H hK1 hP hD hS => ?_)
  obtain rfl : cI = c8 := kc_same hK1 0 3 rfl rfl
  have hPD : kc_PD D A H [(h0, .inr (1, [.ref q1, .ref q3, .ref q5, .null, .null, .int 0, .int 0])), (q1, .inl (cI, 6, .inl (fun _ => 0))), (q3, .inl (cI, 6, .inl (fun _ => 0))), (q5, .inl (cI, 6, .inl (fun _ => 0))), (q7, .inl (cI, 6, .inl (fun _ => 0)))] := ⟨hP, hD⟩
  replace hP := hPD.1
  replace hD := hPD.2
  clear hPD
  refine W.widen (k := 4) (n := 24) (Nat.le_of_ble_eq_true rfl) (Nat.le_of_ble_eq_true rfl) ?_
  refine va_putF (D := D) (ci := 1) (v := .ref q7) (ty := .array .int) (C := RX1) (T := TX1) (N := 7) hx hb htk inW1 tyX1 tyX1_ok nmX1 hown hK hP hD hS 0 rfl rfl 3 (by decide) (htk _ kfX1_21) (fun _ h9 => h9) rfl hin rfl (by decide +kernel) rfl rfl (Nat.le_of_ble_eq_true rfl) dX1_init_33 (fun H locs hP hD hS => ?_)
  have hPD : kc_PD D A H [(h0, .inr (1, [.ref q1, .ref q3, .ref q5, .ref q7, .null, .int 0, .int 0])), (q1, .inl (cI, 6, .inl (fun _ => 0))), (q3, .inl (cI, 6, .inl (fun _ => 0))), (q5, .inl (cI, 6, .inl (fun _ => 0))), (q7, .inl (cI, 6, .inl (fun _ => 0)))] := ⟨hP, hD⟩
  replace hP := hPD.1
  replace hD := hPD.2
  clear hPD
  refine lv_aload_n hx hb dX1_init_36 rfl (lv_at hl 0 rfl) ?_
  refine lv_bipush (v := 8) hx hb dX1_init_37 (by decide) ?_
  refine va_newa (atype := .int) (ty := .int) (a0 := (8, .inl (fun _ => 0))) (N' := 8) hx hb (htk _ wArr) rfl hK hP hD hS hA (fun _ => rfl) (by decide) rfl (by decide) (Nat.le_of_ble_eq_true rfl) (Nat.le_of_ble_eq_true rfl) dX1_init_39 (fun q9 c10 H hK1 hP hD hS => ?_)
  obtain rfl : cI = c10 := kc_same hK1 0 3 rfl rfl
  have hPD : kc_PD D A H [(h0, .inr (1, [.ref q1, .ref q3, .ref q5, .ref q7, .null, .int 0, .int 0])), (q1, .inl (cI, 6, .inl (fun _ => 0))), (q3, .inl (cI, 6, .inl (fun _ => 0))), (q5, .inl (cI, 6, .inl (fun _ => 0))), (q7, .inl (cI, 6, .inl (fun _ => 0))), (q9, .inl (cI, 8, .inl (fun _ => 0)))] := ⟨hP, hD⟩
  replace hP := hPD.1
  replace hD := hPD.2
  clear hPD
  refine W.widen (k := 5) (n := 32) (Nat.le_of_ble_eq_true rfl) (Nat.le_of_ble_eq_true rfl) ?_
  refine va_putF (D := D) (ci := 1) (v := .ref q9) (ty := .array .int) (C := RX1) (T := TX1) (N := 7) hx hb htk inW1 tyX1 tyX1_ok nmX1 hown hK hP hD hS 0 rfl rfl 4 (by decide) (htk _ kfX1_24) (fun _ h9 => h9) rfl hin rfl (by decide +kernel) rfl rfl (Nat.le_of_ble_eq_true rfl) dX1_init_41 (fun H locs hP hD hS => ?_)
  have hPD : kc_PD D A H [(h0, .inr (1, [.ref q1, .ref q3, .ref q5, .ref q7, .ref q9, .int 0, .int 0])), (q1, .inl (cI, 6, .inl (fun _ => 0))), (q3, .inl (cI, 6, .inl (fun _ => 0))), (q5, .inl (cI, 6, .inl (fun _ => 0))), (q7, .inl (cI, 6, .inl (fun _ => 0))), (q9, .inl (cI, 8, .inl (fun _ => 0)))] := ⟨hP, hD⟩
  replace hP := hPD.1
  replace hD := hPD.2
  clear hPD
  exact W.vret hx hb hr (fun t ht hW => ⟨⟨(), rfl, trivial, q1, q3, q5, q7, q9, by rw [ht]; exact hP, hD⟩, hS.F ht⟩) hS.2.2 dX1_init_44
set_option maxHeartbeats 4000000 in
set_option maxRecDepth 100000 in
theorem k_X4_init (l : Launch) (D : va_G) (cI cII cC : ClassId) (h0 sz : Nat) : Met l yX4_init (.code yX4_init cX4_init 1 none :: kw_ws) (kc_rm 2 1 6) (kc_Pre D cI cII cC sz [.ref h0] [(h0, .inr (4, [.null, .int 0, .int 0, .long 0, .long 0]))]) (va_Qv (fun _ : Unit => True) (fun _ t => ∃ q1 : Nat, va_P D vwCl [(h0, .inr (4, [.ref q1, .int 0, .int 0, .long 0, .long 1])), (q1, .inl (cI, 6, .inl (fun _ => 0)))] t.heap ∧ va_D (va_A [(h0, .inr (4, [.null, .int 0, .int 0, .long 0, .long 0]))] sz) [(h0, .inr (4, [.ref q1, .int 0, .int 0, .long 0, .long 1])), (q1, .inl (cI, 6, .inl (fun _ => 0)))]) (va_A [(h0, .inr (4, [.null, .int 0, .int 0, .long 0, .long 0]))] sz)) 1 6 (va_A [(h0, .inr (4, [.null, .int 0, .int 0, .long 0, .long 0]))] sz) := by
  refine Met.ofW (cc := cX4_init) (maxL := 1) (ret := none) (by decide) rfl ?_
  intro p e s m args below meth c s₁ B hml hv
  obtain ⟨rfl, hsz, hP, hK, hD0, hSt⟩ := hv
  have hx := B.exec
  have hb := B.bytes
  have hr := B.returns
  have hts := atoms_spec (ws := .code yX4_init cX4_init 1 none :: kw_ws) B.pre
  have htk := fun w (hw : w ∈ kw_ws) => hts w (List.mem_cons_of_mem _ hw)
  have hown : s.vm.findClass RX4 = some m.cls := findClass_of_methodNamed B.named
  have hlocks := B.notSynchronized
  have hin : meth.name = "<init>" := (name_of_methodNamed B.named B.method).1
  subst hsz
  have hD := hD0.self (sz := s.heap.size)
  generalize hAe : va_A [(h0, .inr (4, [.null, .int 0, .int 0, .long 0, .long 0]))] s.heap.size = A at hD ⊢
  have hA : ∀ q : Nat, s.heap.size ≤ q → A q := fun q h => by rw [← hAe]; exact Or.inr h
  have hS : va_S A s.heap s.heap [] := va_S.rf
  have hP : va_P D vwCl [(h0, .inr (4, [.null, .int 0, .int 0, .long 0, .long 0]))] s.heap := hP
  have hl := lv_entry ([.ref h0]) (n := 1) (Nat.le_of_ble_eq_true rfl)
  rw [lg_entry_eq]
  generalize (lg_sl ([.ref h0]) ++ List.replicate (1 - (lg_sl ([.ref h0])).length) Slot.unset).toArray = ls at hl ⊢
  have hl : lv_has ls 1 [(0, .ref h0)] := hl
  refine lv_aload_n hx hb dX4_init_0 rfl (lv_at hl 0 rfl) ?_
  refine W.objInit hx hb hown (htk _ kmX4_3) (htk _ wIObj) (htk _ wCObj) rfl (by rw [hml]; exact hl.1) rfl dX4_init_1 (Nat.le_of_ble_eq_true rfl) (Nat.le_of_ble_eq_true rfl) ?_
  refine W.eq (g2 := F0 m 4 ls []) rfl ?_
  refine lv_aload_n hx hb dX4_init_4 rfl (lv_at hl 0 rfl) ?_
  refine lv_bipush (v := 6) hx hb dX4_init_5 (by decide) ?_
  refine va_newa (atype := .int) (ty := .int) (a0 := (6, .inl (fun _ => 0))) (N' := 6) hx hb (htk _ wArr) rfl hK hP hD hS hA (fun _ => rfl) (by decide) rfl (by decide) (Nat.le_of_ble_eq_true rfl) (Nat.le_of_ble_eq_true rfl) dX4_init_7 (fun q1 c2 H hK1 hP hD hS => ?_)
  obtain rfl : cI = c2 := kc_same hK1 0 3 rfl rfl
  have hPD : kc_PD D A H [(h0, .inr (4, [.null, .int 0, .int 0, .long 0, .long 0])), (q1, .inl (cI, 6, .inl (fun _ => 0)))] := ⟨hP, hD⟩
  replace hP := hPD.1
  replace hD := hPD.2
  clear hPD
  refine W.widen (k := 1) (n := 6) (Nat.le_of_ble_eq_true rfl) (Nat.le_of_ble_eq_true rfl) ?_
  refine va_putF (D := D) (ci := 4) (v := .ref q1) (ty := .array .int) (C := RX4) (T := TX4) (N := 5) hx hb htk inW4 tyX4 tyX4_ok nmX4 hown hK hP hD hS 0 rfl rfl 0 (by decide) (htk _ kfX4_9) (fun _ h9 => h9) rfl hin rfl (by decide +kernel) rfl rfl (Nat.le_of_ble_eq_true rfl) dX4_init_9 (fun H locs hP hD hS => ?_)
  have hPD : kc_PD D A H [(h0, .inr (4, [.ref q1, .int 0, .int 0, .long 0, .long 0])), (q1, .inl (cI, 6, .inl (fun _ => 0)))] := ⟨hP, hD⟩
  replace hP := hPD.1
  replace hD := hPD.2
  clear hPD
  refine lv_aload_n hx hb dX4_init_12 rfl (lv_at hl 0 rfl) ?_
  refine lv_lconst (v := 1) hx hb dX4_init_13 (by decide) ?_
  refine va_put (D := D) (ci := 4) (v := .long 1) (ty := .long) (C := RX4) (T := TX4) (N := 5) hx hb htk inW4 tyX4 tyX4_ok nmX4 hown hK hP hD hS 0 rfl rfl 4 (by decide) (htk _ kfX4_15) (fun _ h9 => h9) rfl (by decide +kernel) rfl rfl (Nat.le_of_ble_eq_true rfl) dX4_init_14 (fun H locs hP hD hS => ?_)
  have hPD : kc_PD D A H [(h0, .inr (4, [.ref q1, .int 0, .int 0, .long 0, .long 1])), (q1, .inl (cI, 6, .inl (fun _ => 0)))] := ⟨hP, hD⟩
  replace hP := hPD.1
  replace hD := hPD.2
  clear hPD
  exact W.vret hx hb hr (fun t ht hW => ⟨⟨(), rfl, trivial, q1, by rw [ht]; exact hP, hD⟩, hS.F ht⟩) hS.2.2 dX4_init_17
set_option maxHeartbeats 4000000 in
set_option maxRecDepth 100000 in
theorem k_X2_init (l : Launch) (D : va_G) (cI cII cC : ClassId) (h0 sz : Nat) : Met l yX2_init (.code yX2_init cX2_init 1 none :: kw_ws) (kc_rm 3 6 39) (kc_Pre D cI cII cC sz [.ref h0] [(h0, .inr (2, [.null, .int 0]))]) (va_Qv (fun _ : Unit => True) (fun _ t => ∃ q1 q2 q3 q4 q5 q6 : Nat, va_P D vwCl [(h0, .inr (2, [.ref q1, .int 0])), (q1, .inr (1, [.ref q2, .ref q3, .ref q4, .ref q5, .ref q6, .int 0, .int 0])), (q2, .inl (cI, 6, .inl (fun _ => 0))), (q3, .inl (cI, 6, .inl (fun _ => 0))), (q4, .inl (cI, 6, .inl (fun _ => 0))), (q5, .inl (cI, 6, .inl (fun _ => 0))), (q6, .inl (cI, 8, .inl (fun _ => 0)))] t.heap ∧ va_D (va_A [(h0, .inr (2, [.null, .int 0]))] sz) [(h0, .inr (2, [.ref q1, .int 0])), (q1, .inr (1, [.ref q2, .ref q3, .ref q4, .ref q5, .ref q6, .int 0, .int 0])), (q2, .inl (cI, 6, .inl (fun _ => 0))), (q3, .inl (cI, 6, .inl (fun _ => 0))), (q4, .inl (cI, 6, .inl (fun _ => 0))), (q5, .inl (cI, 6, .inl (fun _ => 0))), (q6, .inl (cI, 8, .inl (fun _ => 0)))]) (va_A [(h0, .inr (2, [.null, .int 0]))] sz)) 6 39 (va_A [(h0, .inr (2, [.null, .int 0]))] sz) := by
  refine Met.ofW (cc := cX2_init) (maxL := 1) (ret := none) (by decide) rfl ?_
  intro p e s m args below meth c s₁ B hml hv
  obtain ⟨rfl, hsz, hP, hK, hD0, hSt⟩ := hv
  have hx := B.exec
  have hb := B.bytes
  have hr := B.returns
  have hts := atoms_spec (ws := .code yX2_init cX2_init 1 none :: kw_ws) B.pre
  have htk := fun w (hw : w ∈ kw_ws) => hts w (List.mem_cons_of_mem _ hw)
  have hown : s.vm.findClass RX2 = some m.cls := findClass_of_methodNamed B.named
  have hlocks := B.notSynchronized
  have hin : meth.name = "<init>" := (name_of_methodNamed B.named B.method).1
  subst hsz
  have hD := hD0.self (sz := s.heap.size)
  generalize hAe : va_A [(h0, .inr (2, [.null, .int 0]))] s.heap.size = A at hD ⊢
  have hA : ∀ q : Nat, s.heap.size ≤ q → A q := fun q h => by rw [← hAe]; exact Or.inr h
  have hS : va_S A s.heap s.heap [] := va_S.rf
  have hP : va_P D vwCl [(h0, .inr (2, [.null, .int 0]))] s.heap := hP
  have hl := lv_entry ([.ref h0]) (n := 1) (Nat.le_of_ble_eq_true rfl)
  rw [lg_entry_eq]
  generalize (lg_sl ([.ref h0]) ++ List.replicate (1 - (lg_sl ([.ref h0])).length) Slot.unset).toArray = ls at hl ⊢
  have hl : lv_has ls 1 [(0, .ref h0)] := hl
  refine lv_aload_n hx hb dX2_init_0 rfl (lv_at hl 0 rfl) ?_
  refine W.objInit hx hb hown (htk _ kmX2_3) (htk _ wIObj) (htk _ wCObj) rfl (by rw [hml]; exact hl.1) rfl dX2_init_1 (Nat.le_of_ble_eq_true rfl) (Nat.le_of_ble_eq_true rfl) ?_
  refine W.eq (g2 := F0 m 4 ls []) rfl ?_
  refine lv_aload_n hx hb dX2_init_4 rfl (lv_at hl 0 rfl) ?_
  refine va_new (ci := 1) (fs := [.null, .null, .null, .null, .null, .int 0, .int 0]) (C := RX1) (T := TX1) (N := 7) hx hb htk inW1 tyX1 tyX1_ok hown (htk _ kcX2_9) (htk _ wKX1) (htk _ wNX1) hK hP hD hS hA rfl (fun j hj => by rcases (show j = 0 ∨ j = 1 ∨ j = 2 ∨ j = 3 ∨ j = 4 ∨ j = 5 ∨ j = 6 by omega) with rfl | rfl | rfl | rfl | rfl | rfl | rfl <;> rfl) (Nat.le_of_ble_eq_true rfl) (Nat.le_of_ble_eq_true rfl) dX2_init_5 (fun q1 H hP hD hS => ?_)
  have hPD : kc_PD D A H [(h0, .inr (2, [.null, .int 0])), (q1, .inr (1, [.null, .null, .null, .null, .null, .int 0, .int 0]))] := ⟨hP, hD⟩
  replace hP := hPD.1
  replace hD := hPD.2
  clear hPD
  refine W.widen (k := 1) (n := 7) (Nat.le_of_ble_eq_true rfl) (Nat.le_of_ble_eq_true rfl) ?_
  refine lv_dup hx hb dX2_init_8 rfl ?_
  have hPc := hP.sub (ws' := [(q1, .inr (1, [.null, .null, .null, .null, .null, .int 0, .int 0]))]) [1] rfl
  have hDc := hD.sub (ws' := [(q1, .inr (1, [.null, .null, .null, .null, .null, .int 0, .int 0]))]) [1] (by decide) rfl
  have hFc := va_free (wc := [(q1, .inr (1, [.null, .null, .null, .null, .null, .int 0, .int 0]))]) hD hS hA [1] rfl
  refine va_callv (va_runIN (b := q1) (As := []) (rest := [.ref q1, .ref h0]) ⟨hx, hb, hml, hown, htk⟩ (k_X1_init l D cI cII cC q1 H.size) ⟨va_cnB (host := "WashSails") 0 htk (kw_good wCX1_init (fun w h => h)) rfl rfl rfl (hSt.1 (RX2, 11, yX1_init) (by decide)) (htk _ wNX1) (by decide +kernel) ⟨Nat.le_of_ble_eq_true rfl, Nat.le_of_ble_eq_true rfl⟩, rfl, htk _ wIX1_init⟩ ⟨kc_blind, fun U hU hW => ⟨rfl, by rw [hU], by rw [hU]; exact hPc, va_K.moved hW.alike hK, hDc.weaken (fun _ _ _ _ => trivial), hSt.next hW⟩⟩ rfl rfl hl.1 rfl (lv_room (Nat.le_of_ble_eq_true rfl)) dX2_init_9 ⟨Nat.le_of_ble_eq_true rfl, Nat.le_of_ble_eq_true rfl⟩) hS (fun q _ h => hFc q h) hFc (fun u t H1 locs ht hvm hw hB hz1 hk1 hS => ?_)
  obtain ⟨q2, q3, q4, q5, q6, hP1, hD1⟩ := hB
  rw [ht] at hP1
  obtain ⟨hP, hD⟩ := va_join (wr := [(h0, .inr (2, [.null, .int 0]))]) (w1 := [(q1, .inr (1, [.ref q2, .ref q3, .ref q4, .ref q5, .ref q6, .int 0, .int 0])), (q2, .inl (cI, 6, .inl (fun _ => 0))), (q3, .inl (cI, 6, .inl (fun _ => 0))), (q4, .inl (cI, 6, .inl (fun _ => 0))), (q5, .inl (cI, 6, .inl (fun _ => 0))), (q6, .inl (cI, 8, .inl (fun _ => 0)))]) hP hD [1] [0] rfl rfl (by decide) (by decide) hk1 hFc hP1 hD1
  generalize H1 = H at hP hS ⊢
  have hPD : kc_PD D A H [(h0, .inr (2, [.null, .int 0])), (q1, .inr (1, [.ref q2, .ref q3, .ref q4, .ref q5, .ref q6, .int 0, .int 0])), (q2, .inl (cI, 6, .inl (fun _ => 0))), (q3, .inl (cI, 6, .inl (fun _ => 0))), (q4, .inl (cI, 6, .inl (fun _ => 0))), (q5, .inl (cI, 6, .inl (fun _ => 0))), (q6, .inl (cI, 8, .inl (fun _ => 0)))] := ⟨hP, hD⟩
  replace hP := hPD.1
  replace hD := hPD.2
  clear hPD
  refine W.widen (k := 6) (n := 39) (Nat.le_of_ble_eq_true rfl) (Nat.le_of_ble_eq_true rfl) ?_
  refine va_putF (D := D) (ci := 2) (v := .ref q1) (ty := .object "WashSails$Layout") (C := RX2) (T := TX2) (N := 2) hx hb htk inW2 tyX2 tyX2_ok nmX2 hown hK hP hD hS 0 rfl rfl 0 (by decide) (htk _ kfX2_12) (fun _ h9 => h9) rfl hin rfl (by decide +kernel) rfl rfl (Nat.le_of_ble_eq_true rfl) dX2_init_12 (fun H locs hP hD hS => ?_)
  have hPD : kc_PD D A H [(h0, .inr (2, [.ref q1, .int 0])), (q1, .inr (1, [.ref q2, .ref q3, .ref q4, .ref q5, .ref q6, .int 0, .int 0])), (q2, .inl (cI, 6, .inl (fun _ => 0))), (q3, .inl (cI, 6, .inl (fun _ => 0))), (q4, .inl (cI, 6, .inl (fun _ => 0))), (q5, .inl (cI, 6, .inl (fun _ => 0))), (q6, .inl (cI, 8, .inl (fun _ => 0)))] := ⟨hP, hD⟩
  replace hP := hPD.1
  replace hD := hPD.2
  clear hPD
  exact W.vret hx hb hr (fun t ht hW => ⟨⟨(), rfl, trivial, q1, q2, q3, q4, q5, q6, by rw [ht]; exact hP, hD⟩, hS.F ht⟩) hS.2.2 dX2_init_15
set_option maxHeartbeats 4000000 in
set_option maxRecDepth 100000 in
theorem k_X5_init (l : Launch) (D : va_G) (cI cII cC : ClassId) (h0 sz : Nat) : Met l yX5_init (.code yX5_init cX5_init 1 none :: kw_ws) (kc_rm 3 8 85) (kc_Pre D cI cII cC sz [.ref h0] [(h0, .inr (5, [.null, .null, .null, .int 0, .int 0, .int 0, .int 0, .int 0]))]) (va_Qv (fun _ : Unit => True) (fun _ t => ∃ q1 q2 q3 q4 q5 q6 q7 q9 : Nat, va_P D vwCl [(h0, .inr (5, [.ref q1, .ref q7, .ref q9, .int 0, .int 0, .int 0, .int 0, .int 0])), (q1, .inr (1, [.ref q2, .ref q3, .ref q4, .ref q5, .ref q6, .int 0, .int 0])), (q2, .inl (cI, 6, .inl (fun _ => 0))), (q3, .inl (cI, 6, .inl (fun _ => 0))), (q4, .inl (cI, 6, .inl (fun _ => 0))), (q5, .inl (cI, 6, .inl (fun _ => 0))), (q6, .inl (cI, 8, .inl (fun _ => 0))), (q7, .inl (cI, 40, .inl (fun _ => 0))), (q9, .inl (cI, 6, .inl (fun _ => 0)))] t.heap ∧ va_D (va_A [(h0, .inr (5, [.null, .null, .null, .int 0, .int 0, .int 0, .int 0, .int 0]))] sz) [(h0, .inr (5, [.ref q1, .ref q7, .ref q9, .int 0, .int 0, .int 0, .int 0, .int 0])), (q1, .inr (1, [.ref q2, .ref q3, .ref q4, .ref q5, .ref q6, .int 0, .int 0])), (q2, .inl (cI, 6, .inl (fun _ => 0))), (q3, .inl (cI, 6, .inl (fun _ => 0))), (q4, .inl (cI, 6, .inl (fun _ => 0))), (q5, .inl (cI, 6, .inl (fun _ => 0))), (q6, .inl (cI, 8, .inl (fun _ => 0))), (q7, .inl (cI, 40, .inl (fun _ => 0))), (q9, .inl (cI, 6, .inl (fun _ => 0)))]) (va_A [(h0, .inr (5, [.null, .null, .null, .int 0, .int 0, .int 0, .int 0, .int 0]))] sz)) 8 85 (va_A [(h0, .inr (5, [.null, .null, .null, .int 0, .int 0, .int 0, .int 0, .int 0]))] sz) := by
  refine Met.ofW (cc := cX5_init) (maxL := 1) (ret := none) (by decide) rfl ?_
  intro p e s m args below meth c s₁ B hml hv
  obtain ⟨rfl, hsz, hP, hK, hD0, hSt⟩ := hv
  have hx := B.exec
  have hb := B.bytes
  have hr := B.returns
  have hts := atoms_spec (ws := .code yX5_init cX5_init 1 none :: kw_ws) B.pre
  have htk := fun w (hw : w ∈ kw_ws) => hts w (List.mem_cons_of_mem _ hw)
  have hown : s.vm.findClass RX5 = some m.cls := findClass_of_methodNamed B.named
  have hlocks := B.notSynchronized
  have hin : meth.name = "<init>" := (name_of_methodNamed B.named B.method).1
  subst hsz
  have hD := hD0.self (sz := s.heap.size)
  generalize hAe : va_A [(h0, .inr (5, [.null, .null, .null, .int 0, .int 0, .int 0, .int 0, .int 0]))] s.heap.size = A at hD ⊢
  have hA : ∀ q : Nat, s.heap.size ≤ q → A q := fun q h => by rw [← hAe]; exact Or.inr h
  have hS : va_S A s.heap s.heap [] := va_S.rf
  have hP : va_P D vwCl [(h0, .inr (5, [.null, .null, .null, .int 0, .int 0, .int 0, .int 0, .int 0]))] s.heap := hP
  have hl := lv_entry ([.ref h0]) (n := 1) (Nat.le_of_ble_eq_true rfl)
  rw [lg_entry_eq]
  generalize (lg_sl ([.ref h0]) ++ List.replicate (1 - (lg_sl ([.ref h0])).length) Slot.unset).toArray = ls at hl ⊢
  have hl : lv_has ls 1 [(0, .ref h0)] := hl
  refine lv_aload_n hx hb dX5_init_0 rfl (lv_at hl 0 rfl) ?_
  refine W.objInit hx hb hown (htk _ kmX5_3) (htk _ wIObj) (htk _ wCObj) rfl (by rw [hml]; exact hl.1) rfl dX5_init_1 (Nat.le_of_ble_eq_true rfl) (Nat.le_of_ble_eq_true rfl) ?_
  refine W.eq (g2 := F0 m 4 ls []) rfl ?_
  refine lv_aload_n hx hb dX5_init_4 rfl (lv_at hl 0 rfl) ?_
  refine va_new (ci := 1) (fs := [.null, .null, .null, .null, .null, .int 0, .int 0]) (C := RX1) (T := TX1) (N := 7) hx hb htk inW1 tyX1 tyX1_ok hown (htk _ kcX5_9) (htk _ wKX1) (htk _ wNX1) hK hP hD hS hA rfl (fun j hj => by rcases (show j = 0 ∨ j = 1 ∨ j = 2 ∨ j = 3 ∨ j = 4 ∨ j = 5 ∨ j = 6 by omega) with rfl | rfl | rfl | rfl | rfl | rfl | rfl <;> rfl) (Nat.le_of_ble_eq_true rfl) (Nat.le_of_ble_eq_true rfl) dX5_init_5 (fun q1 H hP hD hS => ?_)
  have hPD : kc_PD D A H [(h0, .inr (5, [.null, .null, .null, .int 0, .int 0, .int 0, .int 0, .int 0])), (q1, .inr (1, [.null, .null, .null, .null, .null, .int 0, .int 0]))] := ⟨hP, hD⟩
  replace hP := hPD.1
  replace hD := hPD.2
  clear hPD
  refine W.widen (k := 1) (n := 7) (Nat.le_of_ble_eq_true rfl) (Nat.le_of_ble_eq_true rfl) ?_
  refine lv_dup hx hb dX5_init_8 rfl ?_
  have hPc := hP.sub (ws' := [(q1, .inr (1, [.null, .null, .null, .null, .null, .int 0, .int 0]))]) [1] rfl
  have hDc := hD.sub (ws' := [(q1, .inr (1, [.null, .null, .null, .null, .null, .int 0, .int 0]))]) [1] (by decide) rfl
  have hFc := va_free (wc := [(q1, .inr (1, [.null, .null, .null, .null, .null, .int 0, .int 0]))]) hD hS hA [1] rfl
  refine va_callv (va_runIN (b := q1) (As := []) (rest := [.ref q1, .ref h0]) ⟨hx, hb, hml, hown, htk⟩ (k_X1_init l D cI cII cC q1 H.size) ⟨va_cnB (host := "WashSails") 0 htk (kw_good wCX1_init (fun w h => h)) rfl rfl rfl (hSt.1 (RX5, 11, yX1_init) (by decide)) (htk _ wNX1) (by decide +kernel) ⟨Nat.le_of_ble_eq_true rfl, Nat.le_of_ble_eq_true rfl⟩, rfl, htk _ wIX1_init⟩ ⟨kc_blind, fun U hU hW => ⟨rfl, by rw [hU], by rw [hU]; exact hPc, va_K.moved hW.alike hK, hDc.weaken (fun _ _ _ _ => trivial), hSt.next hW⟩⟩ rfl rfl hl.1 rfl (lv_room (Nat.le_of_ble_eq_true rfl)) dX5_init_9 ⟨Nat.le_of_ble_eq_true rfl, Nat.le_of_ble_eq_true rfl⟩) hS (fun q _ h => hFc q h) hFc (fun u t H1 locs ht hvm hw hB hz1 hk1 hS => ?_)
  obtain ⟨q2, q3, q4, q5, q6, hP1, hD1⟩ := hB
  rw [ht] at hP1
  obtain ⟨hP, hD⟩ := va_join (wr := [(h0, .inr (5, [.null, .null, .null, .int 0, .int 0, .int 0, .int 0, .int 0]))]) (w1 := [(q1, .inr (1, [.ref q2, .ref q3, .ref q4, .ref q5, .ref q6, .int 0, .int 0])), (q2, .inl (cI, 6, .inl (fun _ => 0))), (q3, .inl (cI, 6, .inl (fun _ => 0))), (q4, .inl (cI, 6, .inl (fun _ => 0))), (q5, .inl (cI, 6, .inl (fun _ => 0))), (q6, .inl (cI, 8, .inl (fun _ => 0)))]) hP hD [1] [0] rfl rfl (by decide) (by decide) hk1 hFc hP1 hD1
  generalize H1 = H at hP hS ⊢
  have hPD : kc_PD D A H [(h0, .inr (5, [.null, .null, .null, .int 0, .int 0, .int 0, .int 0, .int 0])), (q1, .inr (1, [.ref q2, .ref q3, .ref q4, .ref q5, .ref q6, .int 0, .int 0])), (q2, .inl (cI, 6, .inl (fun _ => 0))), (q3, .inl (cI, 6, .inl (fun _ => 0))), (q4, .inl (cI, 6, .inl (fun _ => 0))), (q5, .inl (cI, 6, .inl (fun _ => 0))), (q6, .inl (cI, 8, .inl (fun _ => 0)))] := ⟨hP, hD⟩
  replace hP := hPD.1
  replace hD := hPD.2
  clear hPD
  refine W.widen (k := 6) (n := 39) (Nat.le_of_ble_eq_true rfl) (Nat.le_of_ble_eq_true rfl) ?_
  refine va_putF (D := D) (ci := 5) (v := .ref q1) (ty := .object "WashSails$Layout") (C := RX5) (T := TX5) (N := 8) hx hb htk inW5 tyX5 tyX5_ok nmX5 hown hK hP hD hS 0 rfl rfl 0 (by decide) (htk _ kfX5_12) (fun _ h9 => h9) rfl hin rfl (by decide +kernel) rfl rfl (Nat.le_of_ble_eq_true rfl) dX5_init_12 (fun H locs hP hD hS => ?_)
  have hPD : kc_PD D A H [(h0, .inr (5, [.ref q1, .null, .null, .int 0, .int 0, .int 0, .int 0, .int 0])), (q1, .inr (1, [.ref q2, .ref q3, .ref q4, .ref q5, .ref q6, .int 0, .int 0])), (q2, .inl (cI, 6, .inl (fun _ => 0))), (q3, .inl (cI, 6, .inl (fun _ => 0))), (q4, .inl (cI, 6, .inl (fun _ => 0))), (q5, .inl (cI, 6, .inl (fun _ => 0))), (q6, .inl (cI, 8, .inl (fun _ => 0)))] := ⟨hP, hD⟩
  replace hP := hPD.1
  replace hD := hPD.2
  clear hPD
  refine lv_aload_n hx hb dX5_init_15 rfl (lv_at hl 0 rfl) ?_
  refine lv_bipush (v := 40) hx hb dX5_init_16 (by decide) ?_
  refine va_newa (atype := .int) (ty := .int) (a0 := (40, .inl (fun _ => 0))) (N' := 40) hx hb (htk _ wArr) rfl hK hP hD hS hA (fun _ => rfl) (by decide) rfl (by decide) (Nat.le_of_ble_eq_true rfl) (Nat.le_of_ble_eq_true rfl) dX5_init_18 (fun q7 c8 H hK1 hP hD hS => ?_)
  obtain rfl : cI = c8 := kc_same hK1 0 3 rfl rfl
  have hPD : kc_PD D A H [(h0, .inr (5, [.ref q1, .null, .null, .int 0, .int 0, .int 0, .int 0, .int 0])), (q1, .inr (1, [.ref q2, .ref q3, .ref q4, .ref q5, .ref q6, .int 0, .int 0])), (q2, .inl (cI, 6, .inl (fun _ => 0))), (q3, .inl (cI, 6, .inl (fun _ => 0))), (q4, .inl (cI, 6, .inl (fun _ => 0))), (q5, .inl (cI, 6, .inl (fun _ => 0))), (q6, .inl (cI, 8, .inl (fun _ => 0))), (q7, .inl (cI, 40, .inl (fun _ => 0)))] := ⟨hP, hD⟩
  replace hP := hPD.1
  replace hD := hPD.2
  clear hPD
  refine W.widen (k := 7) (n := 79) (Nat.le_of_ble_eq_true rfl) (Nat.le_of_ble_eq_true rfl) ?_
  refine va_putF (D := D) (ci := 5) (v := .ref q7) (ty := .array .int) (C := RX5) (T := TX5) (N := 8) hx hb htk inW5 tyX5 tyX5_ok nmX5 hown hK hP hD hS 0 rfl rfl 1 (by decide) (htk _ kfX5_18) (fun _ h9 => h9) rfl hin rfl (by decide +kernel) rfl rfl (Nat.le_of_ble_eq_true rfl) dX5_init_20 (fun H locs hP hD hS => ?_)
  have hPD : kc_PD D A H [(h0, .inr (5, [.ref q1, .ref q7, .null, .int 0, .int 0, .int 0, .int 0, .int 0])), (q1, .inr (1, [.ref q2, .ref q3, .ref q4, .ref q5, .ref q6, .int 0, .int 0])), (q2, .inl (cI, 6, .inl (fun _ => 0))), (q3, .inl (cI, 6, .inl (fun _ => 0))), (q4, .inl (cI, 6, .inl (fun _ => 0))), (q5, .inl (cI, 6, .inl (fun _ => 0))), (q6, .inl (cI, 8, .inl (fun _ => 0))), (q7, .inl (cI, 40, .inl (fun _ => 0)))] := ⟨hP, hD⟩
  replace hP := hPD.1
  replace hD := hPD.2
  clear hPD
  refine lv_aload_n hx hb dX5_init_23 rfl (lv_at hl 0 rfl) ?_
  refine lv_bipush (v := 6) hx hb dX5_init_24 (by decide) ?_
  refine va_newa (atype := .int) (ty := .int) (a0 := (6, .inl (fun _ => 0))) (N' := 6) hx hb (htk _ wArr) rfl hK hP hD hS hA (fun _ => rfl) (by decide) rfl (by decide) (Nat.le_of_ble_eq_true rfl) (Nat.le_of_ble_eq_true rfl) dX5_init_26 (fun q9 c10 H hK1 hP hD hS => ?_)
  obtain rfl : cI = c10 := kc_same hK1 0 3 rfl rfl
  have hPD : kc_PD D A H [(h0, .inr (5, [.ref q1, .ref q7, .null, .int 0, .int 0, .int 0, .int 0, .int 0])), (q1, .inr (1, [.ref q2, .ref q3, .ref q4, .ref q5, .ref q6, .int 0, .int 0])), (q2, .inl (cI, 6, .inl (fun _ => 0))), (q3, .inl (cI, 6, .inl (fun _ => 0))), (q4, .inl (cI, 6, .inl (fun _ => 0))), (q5, .inl (cI, 6, .inl (fun _ => 0))), (q6, .inl (cI, 8, .inl (fun _ => 0))), (q7, .inl (cI, 40, .inl (fun _ => 0))), (q9, .inl (cI, 6, .inl (fun _ => 0)))] := ⟨hP, hD⟩
  replace hP := hPD.1
  replace hD := hPD.2
  clear hPD
  refine W.widen (k := 8) (n := 85) (Nat.le_of_ble_eq_true rfl) (Nat.le_of_ble_eq_true rfl) ?_
  refine va_putF (D := D) (ci := 5) (v := .ref q9) (ty := .array .int) (C := RX5) (T := TX5) (N := 8) hx hb htk inW5 tyX5 tyX5_ok nmX5 hown hK hP hD hS 0 rfl rfl 2 (by decide) (htk _ kfX5_22) (fun _ h9 => h9) rfl hin rfl (by decide +kernel) rfl rfl (Nat.le_of_ble_eq_true rfl) dX5_init_28 (fun H locs hP hD hS => ?_)
  have hPD : kc_PD D A H [(h0, .inr (5, [.ref q1, .ref q7, .ref q9, .int 0, .int 0, .int 0, .int 0, .int 0])), (q1, .inr (1, [.ref q2, .ref q3, .ref q4, .ref q5, .ref q6, .int 0, .int 0])), (q2, .inl (cI, 6, .inl (fun _ => 0))), (q3, .inl (cI, 6, .inl (fun _ => 0))), (q4, .inl (cI, 6, .inl (fun _ => 0))), (q5, .inl (cI, 6, .inl (fun _ => 0))), (q6, .inl (cI, 8, .inl (fun _ => 0))), (q7, .inl (cI, 40, .inl (fun _ => 0))), (q9, .inl (cI, 6, .inl (fun _ => 0)))] := ⟨hP, hD⟩
  replace hP := hPD.1
  replace hD := hPD.2
  clear hPD
  exact W.vret hx hb hr (fun t ht hW => ⟨⟨(), rfl, trivial, q1, q2, q3, q4, q5, q6, q7, q9, by rw [ht]; exact hP, hD⟩, hS.F ht⟩) hS.2.2 dX5_init_31
end
section
def kc_SM : kw_S := ((fun a => if a = 0 then (fun j => if j = 11 then 1 else 0) else if a = 2 then (upd (upd (upd (upd (upd (upd (fun _ => 0) 0 (-9)) 1 (-9)) 2 (-9)) 3 (-9)) 4 (-9)) 5 (-9)) else if a = 5 then (upd (upd (upd (upd (fun _ => 0) 0 (-9)) 1 (-9)) 2 (-9)) 3 (-9)) else fun _ => 0), (fun a => if a = 0 then (fun j => if j = 4 then 1 else 0) else fun _ => 0))
set_option maxHeartbeats 4000000 in
set_option maxRecDepth 100000 in
theorem k_X8_init (l : Launch) (D : va_G) (cI cII cC : ClassId) (h0 sz : Nat) : Met l yX8_init (.code yX8_init cX8_init 2 none :: kw_ws) (kc_rm 2 22 2757) (kc_Pre D cI cII cC sz [.ref h0] [(h0, .inr (8, [.int 0, .null, .int 0, .long 0, .long 0, .null, .null, .null, .null, .null, .int 0, .int 0, .null, .null, .null, .null, .null, .int 0, .int 0, .int 0, .null, .null, .int 0, .int 0, .int 0, .int 0, .null, .int 0, .null, .null, .null, .null, .null, .null, .null, .null, .long 0]))]) (va_Qv (fun _ : Unit => True) (fun _ t => ∃ r : Nat → Nat, r 0 = h0 ∧ va_P D vwCl (kw_W (r, D, kc_cl cI cII cC) KM kc_SM) t.heap ∧ va_D (va_A [(h0, .inr (8, [.int 0, .null, .int 0, .long 0, .long 0, .null, .null, .null, .null, .null, .int 0, .int 0, .null, .null, .null, .null, .null, .int 0, .int 0, .int 0, .null, .null, .int 0, .int 0, .int 0, .int 0, .null, .int 0, .null, .null, .null, .null, .null, .null, .null, .null, .long 0]))] sz) (kw_W (r, D, kc_cl cI cII cC) KM kc_SM)) (va_A [(h0, .inr (8, [.int 0, .null, .int 0, .long 0, .long 0, .null, .null, .null, .null, .null, .int 0, .int 0, .null, .null, .null, .null, .null, .int 0, .int 0, .int 0, .null, .null, .int 0, .int 0, .int 0, .int 0, .null, .int 0, .null, .null, .null, .null, .null, .null, .null, .null, .long 0]))] sz)) 22 2757 (va_A [(h0, .inr (8, [.int 0, .null, .int 0, .long 0, .long 0, .null, .null, .null, .null, .null, .int 0, .int 0, .null, .null, .null, .null, .null, .int 0, .int 0, .int 0, .null, .null, .int 0, .int 0, .int 0, .int 0, .null, .int 0, .null, .null, .null, .null, .null, .null, .null, .null, .long 0]))] sz) := by
  refine Met.ofW (cc := cX8_init) (maxL := 2) (ret := none) (by decide) rfl ?_
  intro p e s m args below meth c s₁ B hml hv
  obtain ⟨rfl, hsz, hP, hK, hD0, hSt⟩ := hv
  have hx := B.exec
  have hb := B.bytes
  have hr := B.returns
  have hts := atoms_spec (ws := .code yX8_init cX8_init 2 none :: kw_ws) B.pre
  have htk := fun w (hw : w ∈ kw_ws) => hts w (List.mem_cons_of_mem _ hw)
  have hown : s.vm.findClass RX8 = some m.cls := findClass_of_methodNamed B.named
  have hlocks := B.notSynchronized
  have hin : meth.name = "<init>" := (name_of_methodNamed B.named B.method).1
  subst hsz
  have hD := hD0.self (sz := s.heap.size)
  generalize hAe : va_A [(h0, .inr (8, [.int 0, .null, .int 0, .long 0, .long 0, .null, .null, .null, .null, .null, .int 0, .int 0, .null, .null, .null, .null, .null, .int 0, .int 0, .int 0, .null, .null, .int 0, .int 0, .int 0, .int 0, .null, .int 0, .null, .null, .null, .null, .null, .null, .null, .null, .long 0]))] s.heap.size = A at hD ⊢
  have hA : ∀ q : Nat, s.heap.size ≤ q → A q := fun q h => by rw [← hAe]; exact Or.inr h
  have hS : va_S A s.heap s.heap [] := va_S.rf
  have hP : va_P D vwCl [(h0, .inr (8, [.int 0, .null, .int 0, .long 0, .long 0, .null, .null, .null, .null, .null, .int 0, .int 0, .null, .null, .null, .null, .null, .int 0, .int 0, .int 0, .null, .null, .int 0, .int 0, .int 0, .int 0, .null, .int 0, .null, .null, .null, .null, .null, .null, .null, .null, .long 0]))] s.heap := hP
  have hl := lv_entry ([.ref h0]) (n := 2) (Nat.le_of_ble_eq_true rfl)
  rw [lg_entry_eq]
  generalize (lg_sl ([.ref h0]) ++ List.replicate (2 - (lg_sl ([.ref h0])).length) Slot.unset).toArray = ls at hl ⊢
  have hl : lv_has ls 2 [(0, .ref h0)] := hl
  refine lv_aload_n hx hb dX8_init_0 rfl (lv_at hl 0 rfl) ?_
  refine W.objInit hx hb hown (htk _ kmX8_1) (htk _ wIObj) (htk _ wCObj) rfl (by rw [hml]; exact hl.1) rfl dX8_init_1 (Nat.le_of_ble_eq_true rfl) (Nat.le_of_ble_eq_true rfl) ?_
  refine W.eq (g2 := F0 m 4 ls []) rfl ?_
  refine lv_aload_n hx hb dX8_init_4 rfl (lv_at hl 0 rfl) ?_
  refine lv_bipush (v := 6) hx hb dX8_init_5 (by decide) ?_
  refine va_newa (atype := .int) (ty := .int) (a0 := (6, .inl (fun _ => 0))) (N' := 6) hx hb (htk _ wArr) rfl hK hP hD hS hA (fun _ => rfl) (by decide) rfl (by decide) (Nat.le_of_ble_eq_true rfl) (Nat.le_of_ble_eq_true rfl) dX8_init_7 (fun q1 c2 H hK1 hP hD hS => ?_)
  obtain rfl : cI = c2 := kc_same hK1 0 3 rfl rfl
  have hPD : kc_PD D A H [(h0, .inr (8, [.int 0, .null, .int 0, .long 0, .long 0, .null, .null, .null, .null, .null, .int 0, .int 0, .null, .null, .null, .null, .null, .int 0, .int 0, .int 0, .null, .null, .int 0, .int 0, .int 0, .int 0, .null, .int 0, .null, .null, .null, .null, .null, .null, .null, .null, .long 0])), (q1, .inl (cI, 6, .inl (fun _ => 0)))] := ⟨hP, hD⟩
  replace hP := hPD.1
  replace hD := hPD.2
  clear hPD
  refine W.widen (k := 1) (n := 6) (Nat.le_of_ble_eq_true rfl) (Nat.le_of_ble_eq_true rfl) ?_
  refine va_putF (D := D) (ci := 8) (v := .ref q1) (ty := .array .int) (C := RX8) (T := TX8) (N := 37) hx hb htk inW8 tyX8 tyX8_ok nmX8 hown hK hP hD hS 0 rfl rfl 1 (by decide) (htk _ kfX8_7) (fun _ h9 => h9) rfl hin rfl (by decide +kernel) rfl rfl (Nat.le_of_ble_eq_true rfl) dX8_init_9 (fun H locs hP hD hS => ?_)
  have hPD : kc_PD D A H [(h0, .inr (8, [.int 0, .ref q1, .int 0, .long 0, .long 0, .null, .null, .null, .null, .null, .int 0, .int 0, .null, .null, .null, .null, .null, .int 0, .int 0, .int 0, .null, .null, .int 0, .int 0, .int 0, .int 0, .null, .int 0, .null, .null, .null, .null, .null, .null, .null, .null, .long 0])), (q1, .inl (cI, 6, .inl (fun _ => 0)))] := ⟨hP, hD⟩
  replace hP := hPD.1
  replace hD := hPD.2
  clear hPD
  refine lv_aload_n hx hb dX8_init_12 rfl (lv_at hl 0 rfl) ?_
  refine lv_lconst (v := 1) hx hb dX8_init_13 (by decide) ?_
  refine va_put (D := D) (ci := 8) (v := .long 1) (ty := .long) (C := RX8) (T := TX8) (N := 37) hx hb htk inW8 tyX8 tyX8_ok nmX8 hown hK hP hD hS 0 rfl rfl 4 (by decide) (htk _ kfX8_13) (fun _ h9 => h9) rfl (by decide +kernel) rfl rfl (Nat.le_of_ble_eq_true rfl) dX8_init_14 (fun H locs hP hD hS => ?_)
  have hPD : kc_PD D A H [(h0, .inr (8, [.int 0, .ref q1, .int 0, .long 0, .long 1, .null, .null, .null, .null, .null, .int 0, .int 0, .null, .null, .null, .null, .null, .int 0, .int 0, .int 0, .null, .null, .int 0, .int 0, .int 0, .int 0, .null, .int 0, .null, .null, .null, .null, .null, .null, .null, .null, .long 0])), (q1, .inl (cI, 6, .inl (fun _ => 0)))] := ⟨hP, hD⟩
  replace hP := hPD.1
  replace hD := hPD.2
  clear hPD
  refine lv_aload_n hx hb dX8_init_17 rfl (lv_at hl 0 rfl) ?_
  refine lv_bipush (v := 6) hx hb dX8_init_18 (by decide) ?_
  refine va_newa (atype := .int) (ty := .int) (a0 := (6, .inl (fun _ => 0))) (N' := 6) hx hb (htk _ wArr) rfl hK hP hD hS hA (fun _ => rfl) (by decide) rfl (by decide) (Nat.le_of_ble_eq_true rfl) (Nat.le_of_ble_eq_true rfl) dX8_init_20 (fun q3 c4 H hK1 hP hD hS => ?_)
  obtain rfl : cI = c4 := kc_same hK1 0 3 rfl rfl
  have hPD : kc_PD D A H [(h0, .inr (8, [.int 0, .ref q1, .int 0, .long 0, .long 1, .null, .null, .null, .null, .null, .int 0, .int 0, .null, .null, .null, .null, .null, .int 0, .int 0, .int 0, .null, .null, .int 0, .int 0, .int 0, .int 0, .null, .int 0, .null, .null, .null, .null, .null, .null, .null, .null, .long 0])), (q1, .inl (cI, 6, .inl (fun _ => 0))), (q3, .inl (cI, 6, .inl (fun _ => 0)))] := ⟨hP, hD⟩
  replace hP := hPD.1
  replace hD := hPD.2
  clear hPD
  refine W.widen (k := 2) (n := 12) (Nat.le_of_ble_eq_true rfl) (Nat.le_of_ble_eq_true rfl) ?_
  refine va_putF (D := D) (ci := 8) (v := .ref q3) (ty := .array .int) (C := RX8) (T := TX8) (N := 37) hx hb htk inW8 tyX8 tyX8_ok nmX8 hown hK hP hD hS 0 rfl rfl 5 (by decide) (htk _ kfX8_17) (fun _ h9 => h9) rfl hin rfl (by decide +kernel) rfl rfl (Nat.le_of_ble_eq_true rfl) dX8_init_22 (fun H locs hP hD hS => ?_)
  have hPD : kc_PD D A H [(h0, .inr (8, [.int 0, .ref q1, .int 0, .long 0, .long 1, .ref q3, .null, .null, .null, .null, .int 0, .int 0, .null, .null, .null, .null, .null, .int 0, .int 0, .int 0, .null, .null, .int 0, .int 0, .int 0, .int 0, .null, .int 0, .null, .null, .null, .null, .null, .null, .null, .null, .long 0])), (q1, .inl (cI, 6, .inl (fun _ => 0))), (q3, .inl (cI, 6, .inl (fun _ => 0)))] := ⟨hP, hD⟩
  replace hP := hPD.1
  replace hD := hPD.2
  clear hPD
  refine lv_aload_n hx hb dX8_init_25 rfl (lv_at hl 0 rfl) ?_
  refine lv_sipush (v := 240) hx hb dX8_init_26 (by decide) ?_
  refine va_newa (atype := .int) (ty := .int) (a0 := (240, .inl (fun _ => 0))) (N' := 240) hx hb (htk _ wArr) rfl hK hP hD hS hA (fun _ => rfl) (by decide) rfl (by decide) (Nat.le_of_ble_eq_true rfl) (Nat.le_of_ble_eq_true rfl) dX8_init_29 (fun q5 c6 H hK1 hP hD hS => ?_)
  obtain rfl : cI = c6 := kc_same hK1 0 3 rfl rfl
  have hPD : kc_PD D A H [(h0, .inr (8, [.int 0, .ref q1, .int 0, .long 0, .long 1, .ref q3, .null, .null, .null, .null, .int 0, .int 0, .null, .null, .null, .null, .null, .int 0, .int 0, .int 0, .null, .null, .int 0, .int 0, .int 0, .int 0, .null, .int 0, .null, .null, .null, .null, .null, .null, .null, .null, .long 0])), (q1, .inl (cI, 6, .inl (fun _ => 0))), (q3, .inl (cI, 6, .inl (fun _ => 0))), (q5, .inl (cI, 240, .inl (fun _ => 0)))] := ⟨hP, hD⟩
  replace hP := hPD.1
  replace hD := hPD.2
  clear hPD
  refine W.widen (k := 3) (n := 252) (Nat.le_of_ble_eq_true rfl) (Nat.le_of_ble_eq_true rfl) ?_
  refine va_putF (D := D) (ci := 8) (v := .ref q5) (ty := .array .int) (C := RX8) (T := TX8) (N := 37) hx hb htk inW8 tyX8 tyX8_ok nmX8 hown hK hP hD hS 0 rfl rfl 6 (by decide) (htk _ kfX8_20) (fun _ h9 => h9) rfl hin rfl (by decide +kernel) rfl rfl (Nat.le_of_ble_eq_true rfl) dX8_init_31 (fun H locs hP hD hS => ?_)
  have hPD : kc_PD D A H [(h0, .inr (8, [.int 0, .ref q1, .int 0, .long 0, .long 1, .ref q3, .ref q5, .null, .null, .null, .int 0, .int 0, .null, .null, .null, .null, .null, .int 0, .int 0, .int 0, .null, .null, .int 0, .int 0, .int 0, .int 0, .null, .int 0, .null, .null, .null, .null, .null, .null, .null, .null, .long 0])), (q1, .inl (cI, 6, .inl (fun _ => 0))), (q3, .inl (cI, 6, .inl (fun _ => 0))), (q5, .inl (cI, 240, .inl (fun _ => 0)))] := ⟨hP, hD⟩
  replace hP := hPD.1
  replace hD := hPD.2
  clear hPD
  refine lv_aload_n hx hb dX8_init_34 rfl (lv_at hl 0 rfl) ?_
  refine lv_bipush (v := 40) hx hb dX8_init_35 (by decide) ?_
  refine va_newa (atype := .int) (ty := .int) (a0 := (40, .inl (fun _ => 0))) (N' := 40) hx hb (htk _ wArr) rfl hK hP hD hS hA (fun _ => rfl) (by decide) rfl (by decide) (Nat.le_of_ble_eq_true rfl) (Nat.le_of_ble_eq_true rfl) dX8_init_37 (fun q7 c8 H hK1 hP hD hS => ?_)
  obtain rfl : cI = c8 := kc_same hK1 0 3 rfl rfl
  have hPD : kc_PD D A H [(h0, .inr (8, [.int 0, .ref q1, .int 0, .long 0, .long 1, .ref q3, .ref q5, .null, .null, .null, .int 0, .int 0, .null, .null, .null, .null, .null, .int 0, .int 0, .int 0, .null, .null, .int 0, .int 0, .int 0, .int 0, .null, .int 0, .null, .null, .null, .null, .null, .null, .null, .null, .long 0])), (q1, .inl (cI, 6, .inl (fun _ => 0))), (q3, .inl (cI, 6, .inl (fun _ => 0))), (q5, .inl (cI, 240, .inl (fun _ => 0))), (q7, .inl (cI, 40, .inl (fun _ => 0)))] := ⟨hP, hD⟩
  replace hP := hPD.1
  replace hD := hPD.2
  clear hPD
  refine W.widen (k := 4) (n := 292) (Nat.le_of_ble_eq_true rfl) (Nat.le_of_ble_eq_true rfl) ?_
  refine va_putF (D := D) (ci := 8) (v := .ref q7) (ty := .array .int) (C := RX8) (T := TX8) (N := 37) hx hb htk inW8 tyX8 tyX8_ok nmX8 hown hK hP hD hS 0 rfl rfl 7 (by decide) (htk _ kfX8_23) (fun _ h9 => h9) rfl hin rfl (by decide +kernel) rfl rfl (Nat.le_of_ble_eq_true rfl) dX8_init_39 (fun H locs hP hD hS => ?_)
  have hPD : kc_PD D A H [(h0, .inr (8, [.int 0, .ref q1, .int 0, .long 0, .long 1, .ref q3, .ref q5, .ref q7, .null, .null, .int 0, .int 0, .null, .null, .null, .null, .null, .int 0, .int 0, .int 0, .null, .null, .int 0, .int 0, .int 0, .int 0, .null, .int 0, .null, .null, .null, .null, .null, .null, .null, .null, .long 0])), (q1, .inl (cI, 6, .inl (fun _ => 0))), (q3, .inl (cI, 6, .inl (fun _ => 0))), (q5, .inl (cI, 240, .inl (fun _ => 0))), (q7, .inl (cI, 40, .inl (fun _ => 0)))] := ⟨hP, hD⟩
  replace hP := hPD.1
  replace hD := hPD.2
  clear hPD
  refine lv_aload_n hx hb dX8_init_42 rfl (lv_at hl 0 rfl) ?_
  refine lv_iconst (v := 4) hx hb dX8_init_43 (by decide) ?_
  refine va_newa (atype := .int) (ty := .int) (a0 := (4, .inl (fun _ => 0))) (N' := 4) hx hb (htk _ wArr) rfl hK hP hD hS hA (fun _ => rfl) (by decide) rfl (by decide) (Nat.le_of_ble_eq_true rfl) (Nat.le_of_ble_eq_true rfl) dX8_init_44 (fun q9 c10 H hK1 hP hD hS => ?_)
  obtain rfl : cI = c10 := kc_same hK1 0 3 rfl rfl
  have hPD : kc_PD D A H [(h0, .inr (8, [.int 0, .ref q1, .int 0, .long 0, .long 1, .ref q3, .ref q5, .ref q7, .null, .null, .int 0, .int 0, .null, .null, .null, .null, .null, .int 0, .int 0, .int 0, .null, .null, .int 0, .int 0, .int 0, .int 0, .null, .int 0, .null, .null, .null, .null, .null, .null, .null, .null, .long 0])), (q1, .inl (cI, 6, .inl (fun _ => 0))), (q3, .inl (cI, 6, .inl (fun _ => 0))), (q5, .inl (cI, 240, .inl (fun _ => 0))), (q7, .inl (cI, 40, .inl (fun _ => 0))), (q9, .inl (cI, 4, .inl (fun _ => 0)))] := ⟨hP, hD⟩
  replace hP := hPD.1
  replace hD := hPD.2
  clear hPD
  refine W.widen (k := 5) (n := 296) (Nat.le_of_ble_eq_true rfl) (Nat.le_of_ble_eq_true rfl) ?_
  refine va_putF (D := D) (ci := 8) (v := .ref q9) (ty := .array .int) (C := RX8) (T := TX8) (N := 37) hx hb htk inW8 tyX8 tyX8_ok nmX8 hown hK hP hD hS 0 rfl rfl 8 (by decide) (htk _ kfX8_26) (fun _ h9 => h9) rfl hin rfl (by decide +kernel) rfl rfl (Nat.le_of_ble_eq_true rfl) dX8_init_46 (fun H locs hP hD hS => ?_)
  have hPD : kc_PD D A H [(h0, .inr (8, [.int 0, .ref q1, .int 0, .long 0, .long 1, .ref q3, .ref q5, .ref q7, .ref q9, .null, .int 0, .int 0, .null, .null, .null, .null, .null, .int 0, .int 0, .int 0, .null, .null, .int 0, .int 0, .int 0, .int 0, .null, .int 0, .null, .null, .null, .null, .null, .null, .null, .null, .long 0])), (q1, .inl (cI, 6, .inl (fun _ => 0))), (q3, .inl (cI, 6, .inl (fun _ => 0))), (q5, .inl (cI, 240, .inl (fun _ => 0))), (q7, .inl (cI, 40, .inl (fun _ => 0))), (q9, .inl (cI, 4, .inl (fun _ => 0)))] := ⟨hP, hD⟩
  replace hP := hPD.1
  replace hD := hPD.2
  clear hPD
  refine lv_aload_n hx hb dX8_init_49 rfl (lv_at hl 0 rfl) ?_
  refine lv_sipush (v := 240) hx hb dX8_init_50 (by decide) ?_
  refine va_newa (atype := .int) (ty := .int) (a0 := (240, .inl (fun _ => 0))) (N' := 240) hx hb (htk _ wArr) rfl hK hP hD hS hA (fun _ => rfl) (by decide) rfl (by decide) (Nat.le_of_ble_eq_true rfl) (Nat.le_of_ble_eq_true rfl) dX8_init_53 (fun q11 c12 H hK1 hP hD hS => ?_)
  obtain rfl : cI = c12 := kc_same hK1 0 3 rfl rfl
  have hPD : kc_PD D A H [(h0, .inr (8, [.int 0, .ref q1, .int 0, .long 0, .long 1, .ref q3, .ref q5, .ref q7, .ref q9, .null, .int 0, .int 0, .null, .null, .null, .null, .null, .int 0, .int 0, .int 0, .null, .null, .int 0, .int 0, .int 0, .int 0, .null, .int 0, .null, .null, .null, .null, .null, .null, .null, .null, .long 0])), (q1, .inl (cI, 6, .inl (fun _ => 0))), (q3, .inl (cI, 6, .inl (fun _ => 0))), (q5, .inl (cI, 240, .inl (fun _ => 0))), (q7, .inl (cI, 40, .inl (fun _ => 0))), (q9, .inl (cI, 4, .inl (fun _ => 0))), (q11, .inl (cI, 240, .inl (fun _ => 0)))] := ⟨hP, hD⟩
  replace hP := hPD.1
  replace hD := hPD.2
  clear hPD
  refine W.widen (k := 6) (n := 536) (Nat.le_of_ble_eq_true rfl) (Nat.le_of_ble_eq_true rfl) ?_
  refine va_putF (D := D) (ci := 8) (v := .ref q11) (ty := .array .int) (C := RX8) (T := TX8) (N := 37) hx hb htk inW8 tyX8 tyX8_ok nmX8 hown hK hP hD hS 0 rfl rfl 9 (by decide) (htk _ kfX8_29) (fun _ h9 => h9) rfl hin rfl (by decide +kernel) rfl rfl (Nat.le_of_ble_eq_true rfl) dX8_init_55 (fun H locs hP hD hS => ?_)
  have hPD : kc_PD D A H [(h0, .inr (8, [.int 0, .ref q1, .int 0, .long 0, .long 1, .ref q3, .ref q5, .ref q7, .ref q9, .ref q11, .int 0, .int 0, .null, .null, .null, .null, .null, .int 0, .int 0, .int 0, .null, .null, .int 0, .int 0, .int 0, .int 0, .null, .int 0, .null, .null, .null, .null, .null, .null, .null, .null, .long 0])), (q1, .inl (cI, 6, .inl (fun _ => 0))), (q3, .inl (cI, 6, .inl (fun _ => 0))), (q5, .inl (cI, 240, .inl (fun _ => 0))), (q7, .inl (cI, 40, .inl (fun _ => 0))), (q9, .inl (cI, 4, .inl (fun _ => 0))), (q11, .inl (cI, 240, .inl (fun _ => 0)))] := ⟨hP, hD⟩
  replace hP := hPD.1
  replace hD := hPD.2
  clear hPD
  refine lv_aload_n hx hb dX8_init_58 rfl (lv_at hl 0 rfl) ?_
  refine lv_iconst (v := 1) hx hb dX8_init_59 (by decide) ?_
  refine va_put (D := D) (ci := 8) (v := .int 1) (ty := .int) (C := RX8) (T := TX8) (N := 37) hx hb htk inW8 tyX8 tyX8_ok nmX8 hown hK hP hD hS 0 rfl rfl 11 (by decide) (htk _ kfX8_32) (fun _ h9 => h9) rfl (by decide +kernel) rfl rfl (Nat.le_of_ble_eq_true rfl) dX8_init_60 (fun H locs hP hD hS => ?_)
  have hPD : kc_PD D A H [(h0, .inr (8, [.int 0, .ref q1, .int 0, .long 0, .long 1, .ref q3, .ref q5, .ref q7, .ref q9, .ref q11, .int 0, .int 1, .null, .null, .null, .null, .null, .int 0, .int 0, .int 0, .null, .null, .int 0, .int 0, .int 0, .int 0, .null, .int 0, .null, .null, .null, .null, .null, .null, .null, .null, .long 0])), (q1, .inl (cI, 6, .inl (fun _ => 0))), (q3, .inl (cI, 6, .inl (fun _ => 0))), (q5, .inl (cI, 240, .inl (fun _ => 0))), (q7, .inl (cI, 40, .inl (fun _ => 0))), (q9, .inl (cI, 4, .inl (fun _ => 0))), (q11, .inl (cI, 240, .inl (fun _ => 0)))] := ⟨hP, hD⟩
  replace hP := hPD.1
  replace hD := hPD.2
  clear hPD
  refine lv_aload_n hx hb dX8_init_63 rfl (lv_at hl 0 rfl) ?_
  refine lv_bipush (v := 8) hx hb dX8_init_64 (by decide) ?_
  refine va_newa (atype := .int) (ty := .int) (a0 := (8, .inl (fun _ => 0))) (N' := 8) hx hb (htk _ wArr) rfl hK hP hD hS hA (fun _ => rfl) (by decide) rfl (by decide) (Nat.le_of_ble_eq_true rfl) (Nat.le_of_ble_eq_true rfl) dX8_init_66 (fun q13 c14 H hK1 hP hD hS => ?_)
  obtain rfl : cI = c14 := kc_same hK1 0 3 rfl rfl
  have hPD : kc_PD D A H [(h0, .inr (8, [.int 0, .ref q1, .int 0, .long 0, .long 1, .ref q3, .ref q5, .ref q7, .ref q9, .ref q11, .int 0, .int 1, .null, .null, .null, .null, .null, .int 0, .int 0, .int 0, .null, .null, .int 0, .int 0, .int 0, .int 0, .null, .int 0, .null, .null, .null, .null, .null, .null, .null, .null, .long 0])), (q1, .inl (cI, 6, .inl (fun _ => 0))), (q3, .inl (cI, 6, .inl (fun _ => 0))), (q5, .inl (cI, 240, .inl (fun _ => 0))), (q7, .inl (cI, 40, .inl (fun _ => 0))), (q9, .inl (cI, 4, .inl (fun _ => 0))), (q11, .inl (cI, 240, .inl (fun _ => 0))), (q13, .inl (cI, 8, .inl (fun _ => 0)))] := ⟨hP, hD⟩
  replace hP := hPD.1
  replace hD := hPD.2
  clear hPD
  refine W.widen (k := 7) (n := 544) (Nat.le_of_ble_eq_true rfl) (Nat.le_of_ble_eq_true rfl) ?_
  refine va_putF (D := D) (ci := 8) (v := .ref q13) (ty := .array .int) (C := RX8) (T := TX8) (N := 37) hx hb htk inW8 tyX8 tyX8_ok nmX8 hown hK hP hD hS 0 rfl rfl 12 (by decide) (htk _ kfX8_36) (fun _ h9 => h9) rfl hin rfl (by decide +kernel) rfl rfl (Nat.le_of_ble_eq_true rfl) dX8_init_68 (fun H locs hP hD hS => ?_)
  have hPD : kc_PD D A H [(h0, .inr (8, [.int 0, .ref q1, .int 0, .long 0, .long 1, .ref q3, .ref q5, .ref q7, .ref q9, .ref q11, .int 0, .int 1, .ref q13, .null, .null, .null, .null, .int 0, .int 0, .int 0, .null, .null, .int 0, .int 0, .int 0, .int 0, .null, .int 0, .null, .null, .null, .null, .null, .null, .null, .null, .long 0])), (q1, .inl (cI, 6, .inl (fun _ => 0))), (q3, .inl (cI, 6, .inl (fun _ => 0))), (q5, .inl (cI, 240, .inl (fun _ => 0))), (q7, .inl (cI, 40, .inl (fun _ => 0))), (q9, .inl (cI, 4, .inl (fun _ => 0))), (q11, .inl (cI, 240, .inl (fun _ => 0))), (q13, .inl (cI, 8, .inl (fun _ => 0)))] := ⟨hP, hD⟩
  replace hP := hPD.1
  replace hD := hPD.2
  clear hPD
  refine lv_aload_n hx hb dX8_init_71 rfl (lv_at hl 0 rfl) ?_
  refine lv_bipush (v := 6) hx hb dX8_init_72 (by decide) ?_
  refine va_newa (atype := .int) (ty := .int) (a0 := (6, .inl (fun _ => 0))) (N' := 6) hx hb (htk _ wArr) rfl hK hP hD hS hA (fun _ => rfl) (by decide) rfl (by decide) (Nat.le_of_ble_eq_true rfl) (Nat.le_of_ble_eq_true rfl) dX8_init_74 (fun q15 c16 H hK1 hP hD hS => ?_)
  obtain rfl : cI = c16 := kc_same hK1 0 3 rfl rfl
  have hPD : kc_PD D A H [(h0, .inr (8, [.int 0, .ref q1, .int 0, .long 0, .long 1, .ref q3, .ref q5, .ref q7, .ref q9, .ref q11, .int 0, .int 1, .ref q13, .null, .null, .null, .null, .int 0, .int 0, .int 0, .null, .null, .int 0, .int 0, .int 0, .int 0, .null, .int 0, .null, .null, .null, .null, .null, .null, .null, .null, .long 0])), (q1, .inl (cI, 6, .inl (fun _ => 0))), (q3, .inl (cI, 6, .inl (fun _ => 0))), (q5, .inl (cI, 240, .inl (fun _ => 0))), (q7, .inl (cI, 40, .inl (fun _ => 0))), (q9, .inl (cI, 4, .inl (fun _ => 0))), (q11, .inl (cI, 240, .inl (fun _ => 0))), (q13, .inl (cI, 8, .inl (fun _ => 0))), (q15, .inl (cI, 6, .inl (fun _ => 0)))] := ⟨hP, hD⟩
  replace hP := hPD.1
  replace hD := hPD.2
  clear hPD
  refine W.widen (k := 8) (n := 550) (Nat.le_of_ble_eq_true rfl) (Nat.le_of_ble_eq_true rfl) ?_
  refine va_putF (D := D) (ci := 8) (v := .ref q15) (ty := .array .int) (C := RX8) (T := TX8) (N := 37) hx hb htk inW8 tyX8 tyX8_ok nmX8 hown hK hP hD hS 0 rfl rfl 13 (by decide) (htk _ kfX8_39) (fun _ h9 => h9) rfl hin rfl (by decide +kernel) rfl rfl (Nat.le_of_ble_eq_true rfl) dX8_init_76 (fun H locs hP hD hS => ?_)
  have hPD : kc_PD D A H [(h0, .inr (8, [.int 0, .ref q1, .int 0, .long 0, .long 1, .ref q3, .ref q5, .ref q7, .ref q9, .ref q11, .int 0, .int 1, .ref q13, .ref q15, .null, .null, .null, .int 0, .int 0, .int 0, .null, .null, .int 0, .int 0, .int 0, .int 0, .null, .int 0, .null, .null, .null, .null, .null, .null, .null, .null, .long 0])), (q1, .inl (cI, 6, .inl (fun _ => 0))), (q3, .inl (cI, 6, .inl (fun _ => 0))), (q5, .inl (cI, 240, .inl (fun _ => 0))), (q7, .inl (cI, 40, .inl (fun _ => 0))), (q9, .inl (cI, 4, .inl (fun _ => 0))), (q11, .inl (cI, 240, .inl (fun _ => 0))), (q13, .inl (cI, 8, .inl (fun _ => 0))), (q15, .inl (cI, 6, .inl (fun _ => 0)))] := ⟨hP, hD⟩
  replace hP := hPD.1
  replace hD := hPD.2
  clear hPD
  refine lv_aload_n hx hb dX8_init_79 rfl (lv_at hl 0 rfl) ?_
  refine lv_bipush (v := 6) hx hb dX8_init_80 (by decide) ?_
  refine va_newa (atype := .int) (ty := .int) (a0 := (6, .inl (fun _ => 0))) (N' := 6) hx hb (htk _ wArr) rfl hK hP hD hS hA (fun _ => rfl) (by decide) rfl (by decide) (Nat.le_of_ble_eq_true rfl) (Nat.le_of_ble_eq_true rfl) dX8_init_82 (fun q17 c18 H hK1 hP hD hS => ?_)
  obtain rfl : cI = c18 := kc_same hK1 0 3 rfl rfl
  have hPD : kc_PD D A H [(h0, .inr (8, [.int 0, .ref q1, .int 0, .long 0, .long 1, .ref q3, .ref q5, .ref q7, .ref q9, .ref q11, .int 0, .int 1, .ref q13, .ref q15, .null, .null, .null, .int 0, .int 0, .int 0, .null, .null, .int 0, .int 0, .int 0, .int 0, .null, .int 0, .null, .null, .null, .null, .null, .null, .null, .null, .long 0])), (q1, .inl (cI, 6, .inl (fun _ => 0))), (q3, .inl (cI, 6, .inl (fun _ => 0))), (q5, .inl (cI, 240, .inl (fun _ => 0))), (q7, .inl (cI, 40, .inl (fun _ => 0))), (q9, .inl (cI, 4, .inl (fun _ => 0))), (q11, .inl (cI, 240, .inl (fun _ => 0))), (q13, .inl (cI, 8, .inl (fun _ => 0))), (q15, .inl (cI, 6, .inl (fun _ => 0))), (q17, .inl (cI, 6, .inl (fun _ => 0)))] := ⟨hP, hD⟩
  replace hP := hPD.1
  replace hD := hPD.2
  clear hPD
  refine W.widen (k := 9) (n := 556) (Nat.le_of_ble_eq_true rfl) (Nat.le_of_ble_eq_true rfl) ?_
  refine va_putF (D := D) (ci := 8) (v := .ref q17) (ty := .array .int) (C := RX8) (T := TX8) (N := 37) hx hb htk inW8 tyX8 tyX8_ok nmX8 hown hK hP hD hS 0 rfl rfl 14 (by decide) (htk _ kfX8_42) (fun _ h9 => h9) rfl hin rfl (by decide +kernel) rfl rfl (Nat.le_of_ble_eq_true rfl) dX8_init_84 (fun H locs hP hD hS => ?_)
  have hPD : kc_PD D A H [(h0, .inr (8, [.int 0, .ref q1, .int 0, .long 0, .long 1, .ref q3, .ref q5, .ref q7, .ref q9, .ref q11, .int 0, .int 1, .ref q13, .ref q15, .ref q17, .null, .null, .int 0, .int 0, .int 0, .null, .null, .int 0, .int 0, .int 0, .int 0, .null, .int 0, .null, .null, .null, .null, .null, .null, .null, .null, .long 0])), (q1, .inl (cI, 6, .inl (fun _ => 0))), (q3, .inl (cI, 6, .inl (fun _ => 0))), (q5, .inl (cI, 240, .inl (fun _ => 0))), (q7, .inl (cI, 40, .inl (fun _ => 0))), (q9, .inl (cI, 4, .inl (fun _ => 0))), (q11, .inl (cI, 240, .inl (fun _ => 0))), (q13, .inl (cI, 8, .inl (fun _ => 0))), (q15, .inl (cI, 6, .inl (fun _ => 0))), (q17, .inl (cI, 6, .inl (fun _ => 0)))] := ⟨hP, hD⟩
  replace hP := hPD.1
  replace hD := hPD.2
  clear hPD
  refine lv_aload_n hx hb dX8_init_87 rfl (lv_at hl 0 rfl) ?_
  refine lv_bipush (v := 6) hx hb dX8_init_88 (by decide) ?_
  refine va_newa (atype := .int) (ty := .int) (a0 := (6, .inl (fun _ => 0))) (N' := 6) hx hb (htk _ wArr) rfl hK hP hD hS hA (fun _ => rfl) (by decide) rfl (by decide) (Nat.le_of_ble_eq_true rfl) (Nat.le_of_ble_eq_true rfl) dX8_init_90 (fun q19 c20 H hK1 hP hD hS => ?_)
  obtain rfl : cI = c20 := kc_same hK1 0 3 rfl rfl
  have hPD : kc_PD D A H [(h0, .inr (8, [.int 0, .ref q1, .int 0, .long 0, .long 1, .ref q3, .ref q5, .ref q7, .ref q9, .ref q11, .int 0, .int 1, .ref q13, .ref q15, .ref q17, .null, .null, .int 0, .int 0, .int 0, .null, .null, .int 0, .int 0, .int 0, .int 0, .null, .int 0, .null, .null, .null, .null, .null, .null, .null, .null, .long 0])), (q1, .inl (cI, 6, .inl (fun _ => 0))), (q3, .inl (cI, 6, .inl (fun _ => 0))), (q5, .inl (cI, 240, .inl (fun _ => 0))), (q7, .inl (cI, 40, .inl (fun _ => 0))), (q9, .inl (cI, 4, .inl (fun _ => 0))), (q11, .inl (cI, 240, .inl (fun _ => 0))), (q13, .inl (cI, 8, .inl (fun _ => 0))), (q15, .inl (cI, 6, .inl (fun _ => 0))), (q17, .inl (cI, 6, .inl (fun _ => 0))), (q19, .inl (cI, 6, .inl (fun _ => 0)))] := ⟨hP, hD⟩
  replace hP := hPD.1
  replace hD := hPD.2
  clear hPD
  refine W.widen (k := 10) (n := 562) (Nat.le_of_ble_eq_true rfl) (Nat.le_of_ble_eq_true rfl) ?_
  refine va_putF (D := D) (ci := 8) (v := .ref q19) (ty := .array .int) (C := RX8) (T := TX8) (N := 37) hx hb htk inW8 tyX8 tyX8_ok nmX8 hown hK hP hD hS 0 rfl rfl 15 (by decide) (htk _ kfX8_45) (fun _ h9 => h9) rfl hin rfl (by decide +kernel) rfl rfl (Nat.le_of_ble_eq_true rfl) dX8_init_92 (fun H locs hP hD hS => ?_)
  have hPD : kc_PD D A H [(h0, .inr (8, [.int 0, .ref q1, .int 0, .long 0, .long 1, .ref q3, .ref q5, .ref q7, .ref q9, .ref q11, .int 0, .int 1, .ref q13, .ref q15, .ref q17, .ref q19, .null, .int 0, .int 0, .int 0, .null, .null, .int 0, .int 0, .int 0, .int 0, .null, .int 0, .null, .null, .null, .null, .null, .null, .null, .null, .long 0])), (q1, .inl (cI, 6, .inl (fun _ => 0))), (q3, .inl (cI, 6, .inl (fun _ => 0))), (q5, .inl (cI, 240, .inl (fun _ => 0))), (q7, .inl (cI, 40, .inl (fun _ => 0))), (q9, .inl (cI, 4, .inl (fun _ => 0))), (q11, .inl (cI, 240, .inl (fun _ => 0))), (q13, .inl (cI, 8, .inl (fun _ => 0))), (q15, .inl (cI, 6, .inl (fun _ => 0))), (q17, .inl (cI, 6, .inl (fun _ => 0))), (q19, .inl (cI, 6, .inl (fun _ => 0)))] := ⟨hP, hD⟩
  replace hP := hPD.1
  replace hD := hPD.2
  clear hPD
  refine lv_aload_n hx hb dX8_init_95 rfl (lv_at hl 0 rfl) ?_
  refine lv_bipush (v := 6) hx hb dX8_init_96 (by decide) ?_
  refine va_newa (atype := .int) (ty := .int) (a0 := (6, .inl (fun _ => 0))) (N' := 6) hx hb (htk _ wArr) rfl hK hP hD hS hA (fun _ => rfl) (by decide) rfl (by decide) (Nat.le_of_ble_eq_true rfl) (Nat.le_of_ble_eq_true rfl) dX8_init_98 (fun q21 c22 H hK1 hP hD hS => ?_)
  obtain rfl : cI = c22 := kc_same hK1 0 3 rfl rfl
  have hPD : kc_PD D A H [(h0, .inr (8, [.int 0, .ref q1, .int 0, .long 0, .long 1, .ref q3, .ref q5, .ref q7, .ref q9, .ref q11, .int 0, .int 1, .ref q13, .ref q15, .ref q17, .ref q19, .null, .int 0, .int 0, .int 0, .null, .null, .int 0, .int 0, .int 0, .int 0, .null, .int 0, .null, .null, .null, .null, .null, .null, .null, .null, .long 0])), (q1, .inl (cI, 6, .inl (fun _ => 0))), (q3, .inl (cI, 6, .inl (fun _ => 0))), (q5, .inl (cI, 240, .inl (fun _ => 0))), (q7, .inl (cI, 40, .inl (fun _ => 0))), (q9, .inl (cI, 4, .inl (fun _ => 0))), (q11, .inl (cI, 240, .inl (fun _ => 0))), (q13, .inl (cI, 8, .inl (fun _ => 0))), (q15, .inl (cI, 6, .inl (fun _ => 0))), (q17, .inl (cI, 6, .inl (fun _ => 0))), (q19, .inl (cI, 6, .inl (fun _ => 0))), (q21, .inl (cI, 6, .inl (fun _ => 0)))] := ⟨hP, hD⟩
  replace hP := hPD.1
  replace hD := hPD.2
  clear hPD
  refine W.widen (k := 11) (n := 568) (Nat.le_of_ble_eq_true rfl) (Nat.le_of_ble_eq_true rfl) ?_
  refine va_putF (D := D) (ci := 8) (v := .ref q21) (ty := .array .int) (C := RX8) (T := TX8) (N := 37) hx hb htk inW8 tyX8 tyX8_ok nmX8 hown hK hP hD hS 0 rfl rfl 16 (by decide) (htk _ kfX8_48) (fun _ h9 => h9) rfl hin rfl (by decide +kernel) rfl rfl (Nat.le_of_ble_eq_true rfl) dX8_init_100 (fun H locs hP hD hS => ?_)
  have hPD : kc_PD D A H [(h0, .inr (8, [.int 0, .ref q1, .int 0, .long 0, .long 1, .ref q3, .ref q5, .ref q7, .ref q9, .ref q11, .int 0, .int 1, .ref q13, .ref q15, .ref q17, .ref q19, .ref q21, .int 0, .int 0, .int 0, .null, .null, .int 0, .int 0, .int 0, .int 0, .null, .int 0, .null, .null, .null, .null, .null, .null, .null, .null, .long 0])), (q1, .inl (cI, 6, .inl (fun _ => 0))), (q3, .inl (cI, 6, .inl (fun _ => 0))), (q5, .inl (cI, 240, .inl (fun _ => 0))), (q7, .inl (cI, 40, .inl (fun _ => 0))), (q9, .inl (cI, 4, .inl (fun _ => 0))), (q11, .inl (cI, 240, .inl (fun _ => 0))), (q13, .inl (cI, 8, .inl (fun _ => 0))), (q15, .inl (cI, 6, .inl (fun _ => 0))), (q17, .inl (cI, 6, .inl (fun _ => 0))), (q19, .inl (cI, 6, .inl (fun _ => 0))), (q21, .inl (cI, 6, .inl (fun _ => 0)))] := ⟨hP, hD⟩
  replace hP := hPD.1
  replace hD := hPD.2
  clear hPD
  refine lv_aload_n hx hb dX8_init_103 rfl (lv_at hl 0 rfl) ?_
  refine lv_bipush (v := 8) hx hb dX8_init_104 (by decide) ?_
  refine va_newa (atype := .int) (ty := .int) (a0 := (8, .inl (fun _ => 0))) (N' := 8) hx hb (htk _ wArr) rfl hK hP hD hS hA (fun _ => rfl) (by decide) rfl (by decide) (Nat.le_of_ble_eq_true rfl) (Nat.le_of_ble_eq_true rfl) dX8_init_106 (fun q23 c24 H hK1 hP hD hS => ?_)
  obtain rfl : cI = c24 := kc_same hK1 0 3 rfl rfl
  have hPD : kc_PD D A H [(h0, .inr (8, [.int 0, .ref q1, .int 0, .long 0, .long 1, .ref q3, .ref q5, .ref q7, .ref q9, .ref q11, .int 0, .int 1, .ref q13, .ref q15, .ref q17, .ref q19, .ref q21, .int 0, .int 0, .int 0, .null, .null, .int 0, .int 0, .int 0, .int 0, .null, .int 0, .null, .null, .null, .null, .null, .null, .null, .null, .long 0])), (q1, .inl (cI, 6, .inl (fun _ => 0))), (q3, .inl (cI, 6, .inl (fun _ => 0))), (q5, .inl (cI, 240, .inl (fun _ => 0))), (q7, .inl (cI, 40, .inl (fun _ => 0))), (q9, .inl (cI, 4, .inl (fun _ => 0))), (q11, .inl (cI, 240, .inl (fun _ => 0))), (q13, .inl (cI, 8, .inl (fun _ => 0))), (q15, .inl (cI, 6, .inl (fun _ => 0))), (q17, .inl (cI, 6, .inl (fun _ => 0))), (q19, .inl (cI, 6, .inl (fun _ => 0))), (q21, .inl (cI, 6, .inl (fun _ => 0))), (q23, .inl (cI, 8, .inl (fun _ => 0)))] := ⟨hP, hD⟩
  replace hP := hPD.1
  replace hD := hPD.2
  clear hPD
  refine W.widen (k := 12) (n := 576) (Nat.le_of_ble_eq_true rfl) (Nat.le_of_ble_eq_true rfl) ?_
  refine va_putF (D := D) (ci := 8) (v := .ref q23) (ty := .array .int) (C := RX8) (T := TX8) (N := 37) hx hb htk inW8 tyX8 tyX8_ok nmX8 hown hK hP hD hS 0 rfl rfl 20 (by decide) (htk _ kfX8_51) (fun _ h9 => h9) rfl hin rfl (by decide +kernel) rfl rfl (Nat.le_of_ble_eq_true rfl) dX8_init_108 (fun H locs hP hD hS => ?_)
  have hPD : kc_PD D A H [(h0, .inr (8, [.int 0, .ref q1, .int 0, .long 0, .long 1, .ref q3, .ref q5, .ref q7, .ref q9, .ref q11, .int 0, .int 1, .ref q13, .ref q15, .ref q17, .ref q19, .ref q21, .int 0, .int 0, .int 0, .ref q23, .null, .int 0, .int 0, .int 0, .int 0, .null, .int 0, .null, .null, .null, .null, .null, .null, .null, .null, .long 0])), (q1, .inl (cI, 6, .inl (fun _ => 0))), (q3, .inl (cI, 6, .inl (fun _ => 0))), (q5, .inl (cI, 240, .inl (fun _ => 0))), (q7, .inl (cI, 40, .inl (fun _ => 0))), (q9, .inl (cI, 4, .inl (fun _ => 0))), (q11, .inl (cI, 240, .inl (fun _ => 0))), (q13, .inl (cI, 8, .inl (fun _ => 0))), (q15, .inl (cI, 6, .inl (fun _ => 0))), (q17, .inl (cI, 6, .inl (fun _ => 0))), (q19, .inl (cI, 6, .inl (fun _ => 0))), (q21, .inl (cI, 6, .inl (fun _ => 0))), (q23, .inl (cI, 8, .inl (fun _ => 0)))] := ⟨hP, hD⟩
  replace hP := hPD.1
  replace hD := hPD.2
  clear hPD
  refine lv_aload_n hx hb dX8_init_111 rfl (lv_at hl 0 rfl) ?_
  refine lv_bipush (v := 24) hx hb dX8_init_112 (by decide) ?_
  refine va_newa (atype := .int) (ty := .int) (a0 := (24, .inl (fun _ => 0))) (N' := 24) hx hb (htk _ wArr) rfl hK hP hD hS hA (fun _ => rfl) (by decide) rfl (by decide) (Nat.le_of_ble_eq_true rfl) (Nat.le_of_ble_eq_true rfl) dX8_init_114 (fun q25 c26 H hK1 hP hD hS => ?_)
  obtain rfl : cI = c26 := kc_same hK1 0 3 rfl rfl
  have hPD : kc_PD D A H [(h0, .inr (8, [.int 0, .ref q1, .int 0, .long 0, .long 1, .ref q3, .ref q5, .ref q7, .ref q9, .ref q11, .int 0, .int 1, .ref q13, .ref q15, .ref q17, .ref q19, .ref q21, .int 0, .int 0, .int 0, .ref q23, .null, .int 0, .int 0, .int 0, .int 0, .null, .int 0, .null, .null, .null, .null, .null, .null, .null, .null, .long 0])), (q1, .inl (cI, 6, .inl (fun _ => 0))), (q3, .inl (cI, 6, .inl (fun _ => 0))), (q5, .inl (cI, 240, .inl (fun _ => 0))), (q7, .inl (cI, 40, .inl (fun _ => 0))), (q9, .inl (cI, 4, .inl (fun _ => 0))), (q11, .inl (cI, 240, .inl (fun _ => 0))), (q13, .inl (cI, 8, .inl (fun _ => 0))), (q15, .inl (cI, 6, .inl (fun _ => 0))), (q17, .inl (cI, 6, .inl (fun _ => 0))), (q19, .inl (cI, 6, .inl (fun _ => 0))), (q21, .inl (cI, 6, .inl (fun _ => 0))), (q23, .inl (cI, 8, .inl (fun _ => 0))), (q25, .inl (cI, 24, .inl (fun _ => 0)))] := ⟨hP, hD⟩
  replace hP := hPD.1
  replace hD := hPD.2
  clear hPD
  refine W.widen (k := 13) (n := 600) (Nat.le_of_ble_eq_true rfl) (Nat.le_of_ble_eq_true rfl) ?_
  refine va_putF (D := D) (ci := 8) (v := .ref q25) (ty := .array .int) (C := RX8) (T := TX8) (N := 37) hx hb htk inW8 tyX8 tyX8_ok nmX8 hown hK hP hD hS 0 rfl rfl 21 (by decide) (htk _ kfX8_54) (fun _ h9 => h9) rfl hin rfl (by decide +kernel) rfl rfl (Nat.le_of_ble_eq_true rfl) dX8_init_116 (fun H locs hP hD hS => ?_)
  have hPD : kc_PD D A H [(h0, .inr (8, [.int 0, .ref q1, .int 0, .long 0, .long 1, .ref q3, .ref q5, .ref q7, .ref q9, .ref q11, .int 0, .int 1, .ref q13, .ref q15, .ref q17, .ref q19, .ref q21, .int 0, .int 0, .int 0, .ref q23, .ref q25, .int 0, .int 0, .int 0, .int 0, .null, .int 0, .null, .null, .null, .null, .null, .null, .null, .null, .long 0])), (q1, .inl (cI, 6, .inl (fun _ => 0))), (q3, .inl (cI, 6, .inl (fun _ => 0))), (q5, .inl (cI, 240, .inl (fun _ => 0))), (q7, .inl (cI, 40, .inl (fun _ => 0))), (q9, .inl (cI, 4, .inl (fun _ => 0))), (q11, .inl (cI, 240, .inl (fun _ => 0))), (q13, .inl (cI, 8, .inl (fun _ => 0))), (q15, .inl (cI, 6, .inl (fun _ => 0))), (q17, .inl (cI, 6, .inl (fun _ => 0))), (q19, .inl (cI, 6, .inl (fun _ => 0))), (q21, .inl (cI, 6, .inl (fun _ => 0))), (q23, .inl (cI, 8, .inl (fun _ => 0))), (q25, .inl (cI, 24, .inl (fun _ => 0)))] := ⟨hP, hD⟩
  replace hP := hPD.1
  replace hD := hPD.2
  clear hPD
  refine lv_aload_n hx hb dX8_init_119 rfl (lv_at hl 0 rfl) ?_
  refine lv_bipush (v := 6) hx hb dX8_init_120 (by decide) ?_
  refine va_newa (atype := .int) (ty := .int) (a0 := (6, .inl (fun _ => 0))) (N' := 6) hx hb (htk _ wArr) rfl hK hP hD hS hA (fun _ => rfl) (by decide) rfl (by decide) (Nat.le_of_ble_eq_true rfl) (Nat.le_of_ble_eq_true rfl) dX8_init_122 (fun q27 c28 H hK1 hP hD hS => ?_)
  obtain rfl : cI = c28 := kc_same hK1 0 3 rfl rfl
  have hPD : kc_PD D A H [(h0, .inr (8, [.int 0, .ref q1, .int 0, .long 0, .long 1, .ref q3, .ref q5, .ref q7, .ref q9, .ref q11, .int 0, .int 1, .ref q13, .ref q15, .ref q17, .ref q19, .ref q21, .int 0, .int 0, .int 0, .ref q23, .ref q25, .int 0, .int 0, .int 0, .int 0, .null, .int 0, .null, .null, .null, .null, .null, .null, .null, .null, .long 0])), (q1, .inl (cI, 6, .inl (fun _ => 0))), (q3, .inl (cI, 6, .inl (fun _ => 0))), (q5, .inl (cI, 240, .inl (fun _ => 0))), (q7, .inl (cI, 40, .inl (fun _ => 0))), (q9, .inl (cI, 4, .inl (fun _ => 0))), (q11, .inl (cI, 240, .inl (fun _ => 0))), (q13, .inl (cI, 8, .inl (fun _ => 0))), (q15, .inl (cI, 6, .inl (fun _ => 0))), (q17, .inl (cI, 6, .inl (fun _ => 0))), (q19, .inl (cI, 6, .inl (fun _ => 0))), (q21, .inl (cI, 6, .inl (fun _ => 0))), (q23, .inl (cI, 8, .inl (fun _ => 0))), (q25, .inl (cI, 24, .inl (fun _ => 0))), (q27, .inl (cI, 6, .inl (fun _ => 0)))] := ⟨hP, hD⟩
  replace hP := hPD.1
  replace hD := hPD.2
  clear hPD
  refine W.widen (k := 14) (n := 606) (Nat.le_of_ble_eq_true rfl) (Nat.le_of_ble_eq_true rfl) ?_
  refine va_putF (D := D) (ci := 8) (v := .ref q27) (ty := .array .int) (C := RX8) (T := TX8) (N := 37) hx hb htk inW8 tyX8 tyX8_ok nmX8 hown hK hP hD hS 0 rfl rfl 26 (by decide) (htk _ kfX8_57) (fun _ h9 => h9) rfl hin rfl (by decide +kernel) rfl rfl (Nat.le_of_ble_eq_true rfl) dX8_init_124 (fun H locs hP hD hS => ?_)
  have hPD : kc_PD D A H [(h0, .inr (8, [.int 0, .ref q1, .int 0, .long 0, .long 1, .ref q3, .ref q5, .ref q7, .ref q9, .ref q11, .int 0, .int 1, .ref q13, .ref q15, .ref q17, .ref q19, .ref q21, .int 0, .int 0, .int 0, .ref q23, .ref q25, .int 0, .int 0, .int 0, .int 0, .ref q27, .int 0, .null, .null, .null, .null, .null, .null, .null, .null, .long 0])), (q1, .inl (cI, 6, .inl (fun _ => 0))), (q3, .inl (cI, 6, .inl (fun _ => 0))), (q5, .inl (cI, 240, .inl (fun _ => 0))), (q7, .inl (cI, 40, .inl (fun _ => 0))), (q9, .inl (cI, 4, .inl (fun _ => 0))), (q11, .inl (cI, 240, .inl (fun _ => 0))), (q13, .inl (cI, 8, .inl (fun _ => 0))), (q15, .inl (cI, 6, .inl (fun _ => 0))), (q17, .inl (cI, 6, .inl (fun _ => 0))), (q19, .inl (cI, 6, .inl (fun _ => 0))), (q21, .inl (cI, 6, .inl (fun _ => 0))), (q23, .inl (cI, 8, .inl (fun _ => 0))), (q25, .inl (cI, 24, .inl (fun _ => 0))), (q27, .inl (cI, 6, .inl (fun _ => 0)))] := ⟨hP, hD⟩
  replace hP := hPD.1
  replace hD := hPD.2
  clear hPD
  refine lv_aload_n hx hb dX8_init_127 rfl (lv_at hl 0 rfl) ?_
  refine lv_sipush (v := 400) hx hb dX8_init_128 (by decide) ?_
  refine va_newa (atype := .int) (ty := .int) (a0 := (400, .inl (fun _ => 0))) (N' := 400) hx hb (htk _ wArr) rfl hK hP hD hS hA (fun _ => rfl) (by decide) rfl (by decide) (Nat.le_of_ble_eq_true rfl) (Nat.le_of_ble_eq_true rfl) dX8_init_131 (fun q29 c30 H hK1 hP hD hS => ?_)
  obtain rfl : cI = c30 := kc_same hK1 0 3 rfl rfl
  have hPD : kc_PD D A H [(h0, .inr (8, [.int 0, .ref q1, .int 0, .long 0, .long 1, .ref q3, .ref q5, .ref q7, .ref q9, .ref q11, .int 0, .int 1, .ref q13, .ref q15, .ref q17, .ref q19, .ref q21, .int 0, .int 0, .int 0, .ref q23, .ref q25, .int 0, .int 0, .int 0, .int 0, .ref q27, .int 0, .null, .null, .null, .null, .null, .null, .null, .null, .long 0])), (q1, .inl (cI, 6, .inl (fun _ => 0))), (q3, .inl (cI, 6, .inl (fun _ => 0))), (q5, .inl (cI, 240, .inl (fun _ => 0))), (q7, .inl (cI, 40, .inl (fun _ => 0))), (q9, .inl (cI, 4, .inl (fun _ => 0))), (q11, .inl (cI, 240, .inl (fun _ => 0))), (q13, .inl (cI, 8, .inl (fun _ => 0))), (q15, .inl (cI, 6, .inl (fun _ => 0))), (q17, .inl (cI, 6, .inl (fun _ => 0))), (q19, .inl (cI, 6, .inl (fun _ => 0))), (q21, .inl (cI, 6, .inl (fun _ => 0))), (q23, .inl (cI, 8, .inl (fun _ => 0))), (q25, .inl (cI, 24, .inl (fun _ => 0))), (q27, .inl (cI, 6, .inl (fun _ => 0))), (q29, .inl (cI, 400, .inl (fun _ => 0)))] := ⟨hP, hD⟩
  replace hP := hPD.1
  replace hD := hPD.2
  clear hPD
  refine W.widen (k := 15) (n := 1006) (Nat.le_of_ble_eq_true rfl) (Nat.le_of_ble_eq_true rfl) ?_
  refine va_putF (D := D) (ci := 8) (v := .ref q29) (ty := .array .int) (C := RX8) (T := TX8) (N := 37) hx hb htk inW8 tyX8 tyX8_ok nmX8 hown hK hP hD hS 0 rfl rfl 28 (by decide) (htk _ kfX8_60) (fun _ h9 => h9) rfl hin rfl (by decide +kernel) rfl rfl (Nat.le_of_ble_eq_true rfl) dX8_init_133 (fun H locs hP hD hS => ?_)
  have hPD : kc_PD D A H [(h0, .inr (8, [.int 0, .ref q1, .int 0, .long 0, .long 1, .ref q3, .ref q5, .ref q7, .ref q9, .ref q11, .int 0, .int 1, .ref q13, .ref q15, .ref q17, .ref q19, .ref q21, .int 0, .int 0, .int 0, .ref q23, .ref q25, .int 0, .int 0, .int 0, .int 0, .ref q27, .int 0, .ref q29, .null, .null, .null, .null, .null, .null, .null, .long 0])), (q1, .inl (cI, 6, .inl (fun _ => 0))), (q3, .inl (cI, 6, .inl (fun _ => 0))), (q5, .inl (cI, 240, .inl (fun _ => 0))), (q7, .inl (cI, 40, .inl (fun _ => 0))), (q9, .inl (cI, 4, .inl (fun _ => 0))), (q11, .inl (cI, 240, .inl (fun _ => 0))), (q13, .inl (cI, 8, .inl (fun _ => 0))), (q15, .inl (cI, 6, .inl (fun _ => 0))), (q17, .inl (cI, 6, .inl (fun _ => 0))), (q19, .inl (cI, 6, .inl (fun _ => 0))), (q21, .inl (cI, 6, .inl (fun _ => 0))), (q23, .inl (cI, 8, .inl (fun _ => 0))), (q25, .inl (cI, 24, .inl (fun _ => 0))), (q27, .inl (cI, 6, .inl (fun _ => 0))), (q29, .inl (cI, 400, .inl (fun _ => 0)))] := ⟨hP, hD⟩
  replace hP := hPD.1
  replace hD := hPD.2
  clear hPD
  refine lv_aload_n hx hb dX8_init_136 rfl (lv_at hl 0 rfl) ?_
  refine lv_iconst (v := 3) hx hb dX8_init_137 (by decide) ?_
  refine va_newa (atype := .int) (ty := .int) (a0 := (3, .inl (fun _ => 0))) (N' := 3) hx hb (htk _ wArr) rfl hK hP hD hS hA (fun _ => rfl) (by decide) rfl (by decide) (Nat.le_of_ble_eq_true rfl) (Nat.le_of_ble_eq_true rfl) dX8_init_138 (fun q31 c32 H hK1 hP hD hS => ?_)
  obtain rfl : cI = c32 := kc_same hK1 0 3 rfl rfl
  have hPD : kc_PD D A H [(h0, .inr (8, [.int 0, .ref q1, .int 0, .long 0, .long 1, .ref q3, .ref q5, .ref q7, .ref q9, .ref q11, .int 0, .int 1, .ref q13, .ref q15, .ref q17, .ref q19, .ref q21, .int 0, .int 0, .int 0, .ref q23, .ref q25, .int 0, .int 0, .int 0, .int 0, .ref q27, .int 0, .ref q29, .null, .null, .null, .null, .null, .null, .null, .long 0])), (q1, .inl (cI, 6, .inl (fun _ => 0))), (q3, .inl (cI, 6, .inl (fun _ => 0))), (q5, .inl (cI, 240, .inl (fun _ => 0))), (q7, .inl (cI, 40, .inl (fun _ => 0))), (q9, .inl (cI, 4, .inl (fun _ => 0))), (q11, .inl (cI, 240, .inl (fun _ => 0))), (q13, .inl (cI, 8, .inl (fun _ => 0))), (q15, .inl (cI, 6, .inl (fun _ => 0))), (q17, .inl (cI, 6, .inl (fun _ => 0))), (q19, .inl (cI, 6, .inl (fun _ => 0))), (q21, .inl (cI, 6, .inl (fun _ => 0))), (q23, .inl (cI, 8, .inl (fun _ => 0))), (q25, .inl (cI, 24, .inl (fun _ => 0))), (q27, .inl (cI, 6, .inl (fun _ => 0))), (q29, .inl (cI, 400, .inl (fun _ => 0))), (q31, .inl (cI, 3, .inl (fun _ => 0)))] := ⟨hP, hD⟩
  replace hP := hPD.1
  replace hD := hPD.2
  clear hPD
  refine W.widen (k := 16) (n := 1009) (Nat.le_of_ble_eq_true rfl) (Nat.le_of_ble_eq_true rfl) ?_
  refine va_putF (D := D) (ci := 8) (v := .ref q31) (ty := .array .int) (C := RX8) (T := TX8) (N := 37) hx hb htk inW8 tyX8 tyX8_ok nmX8 hown hK hP hD hS 0 rfl rfl 29 (by decide) (htk _ kfX8_63) (fun _ h9 => h9) rfl hin rfl (by decide +kernel) rfl rfl (Nat.le_of_ble_eq_true rfl) dX8_init_140 (fun H locs hP hD hS => ?_)
  have hPD : kc_PD D A H [(h0, .inr (8, [.int 0, .ref q1, .int 0, .long 0, .long 1, .ref q3, .ref q5, .ref q7, .ref q9, .ref q11, .int 0, .int 1, .ref q13, .ref q15, .ref q17, .ref q19, .ref q21, .int 0, .int 0, .int 0, .ref q23, .ref q25, .int 0, .int 0, .int 0, .int 0, .ref q27, .int 0, .ref q29, .ref q31, .null, .null, .null, .null, .null, .null, .long 0])), (q1, .inl (cI, 6, .inl (fun _ => 0))), (q3, .inl (cI, 6, .inl (fun _ => 0))), (q5, .inl (cI, 240, .inl (fun _ => 0))), (q7, .inl (cI, 40, .inl (fun _ => 0))), (q9, .inl (cI, 4, .inl (fun _ => 0))), (q11, .inl (cI, 240, .inl (fun _ => 0))), (q13, .inl (cI, 8, .inl (fun _ => 0))), (q15, .inl (cI, 6, .inl (fun _ => 0))), (q17, .inl (cI, 6, .inl (fun _ => 0))), (q19, .inl (cI, 6, .inl (fun _ => 0))), (q21, .inl (cI, 6, .inl (fun _ => 0))), (q23, .inl (cI, 8, .inl (fun _ => 0))), (q25, .inl (cI, 24, .inl (fun _ => 0))), (q27, .inl (cI, 6, .inl (fun _ => 0))), (q29, .inl (cI, 400, .inl (fun _ => 0))), (q31, .inl (cI, 3, .inl (fun _ => 0)))] := ⟨hP, hD⟩
  replace hP := hPD.1
  replace hD := hPD.2
  clear hPD
  refine lv_aload_n hx hb dX8_init_143 rfl (lv_at hl 0 rfl) ?_
  refine lv_sipush (v := 1233) hx hb dX8_init_144 (by decide) ?_
  refine va_newa (atype := .int) (ty := .int) (a0 := (1233, .inl (fun _ => 0))) (N' := 1233) hx hb (htk _ wArr) rfl hK hP hD hS hA (fun _ => rfl) (by decide) rfl (by decide) (Nat.le_of_ble_eq_true rfl) (Nat.le_of_ble_eq_true rfl) dX8_init_147 (fun q33 c34 H hK1 hP hD hS => ?_)
  obtain rfl : cI = c34 := kc_same hK1 0 3 rfl rfl
  have hPD : kc_PD D A H [(h0, .inr (8, [.int 0, .ref q1, .int 0, .long 0, .long 1, .ref q3, .ref q5, .ref q7, .ref q9, .ref q11, .int 0, .int 1, .ref q13, .ref q15, .ref q17, .ref q19, .ref q21, .int 0, .int 0, .int 0, .ref q23, .ref q25, .int 0, .int 0, .int 0, .int 0, .ref q27, .int 0, .ref q29, .ref q31, .null, .null, .null, .null, .null, .null, .long 0])), (q1, .inl (cI, 6, .inl (fun _ => 0))), (q3, .inl (cI, 6, .inl (fun _ => 0))), (q5, .inl (cI, 240, .inl (fun _ => 0))), (q7, .inl (cI, 40, .inl (fun _ => 0))), (q9, .inl (cI, 4, .inl (fun _ => 0))), (q11, .inl (cI, 240, .inl (fun _ => 0))), (q13, .inl (cI, 8, .inl (fun _ => 0))), (q15, .inl (cI, 6, .inl (fun _ => 0))), (q17, .inl (cI, 6, .inl (fun _ => 0))), (q19, .inl (cI, 6, .inl (fun _ => 0))), (q21, .inl (cI, 6, .inl (fun _ => 0))), (q23, .inl (cI, 8, .inl (fun _ => 0))), (q25, .inl (cI, 24, .inl (fun _ => 0))), (q27, .inl (cI, 6, .inl (fun _ => 0))), (q29, .inl (cI, 400, .inl (fun _ => 0))), (q31, .inl (cI, 3, .inl (fun _ => 0))), (q33, .inl (cI, 1233, .inl (fun _ => 0)))] := ⟨hP, hD⟩
  replace hP := hPD.1
  replace hD := hPD.2
  clear hPD
  refine W.widen (k := 17) (n := 2242) (Nat.le_of_ble_eq_true rfl) (Nat.le_of_ble_eq_true rfl) ?_
  refine va_putF (D := D) (ci := 8) (v := .ref q33) (ty := .array .int) (C := RX8) (T := TX8) (N := 37) hx hb htk inW8 tyX8 tyX8_ok nmX8 hown hK hP hD hS 0 rfl rfl 30 (by decide) (htk _ kfX8_66) (fun _ h9 => h9) rfl hin rfl (by decide +kernel) rfl rfl (Nat.le_of_ble_eq_true rfl) dX8_init_149 (fun H locs hP hD hS => ?_)
  have hPD : kc_PD D A H [(h0, .inr (8, [.int 0, .ref q1, .int 0, .long 0, .long 1, .ref q3, .ref q5, .ref q7, .ref q9, .ref q11, .int 0, .int 1, .ref q13, .ref q15, .ref q17, .ref q19, .ref q21, .int 0, .int 0, .int 0, .ref q23, .ref q25, .int 0, .int 0, .int 0, .int 0, .ref q27, .int 0, .ref q29, .ref q31, .ref q33, .null, .null, .null, .null, .null, .long 0])), (q1, .inl (cI, 6, .inl (fun _ => 0))), (q3, .inl (cI, 6, .inl (fun _ => 0))), (q5, .inl (cI, 240, .inl (fun _ => 0))), (q7, .inl (cI, 40, .inl (fun _ => 0))), (q9, .inl (cI, 4, .inl (fun _ => 0))), (q11, .inl (cI, 240, .inl (fun _ => 0))), (q13, .inl (cI, 8, .inl (fun _ => 0))), (q15, .inl (cI, 6, .inl (fun _ => 0))), (q17, .inl (cI, 6, .inl (fun _ => 0))), (q19, .inl (cI, 6, .inl (fun _ => 0))), (q21, .inl (cI, 6, .inl (fun _ => 0))), (q23, .inl (cI, 8, .inl (fun _ => 0))), (q25, .inl (cI, 24, .inl (fun _ => 0))), (q27, .inl (cI, 6, .inl (fun _ => 0))), (q29, .inl (cI, 400, .inl (fun _ => 0))), (q31, .inl (cI, 3, .inl (fun _ => 0))), (q33, .inl (cI, 1233, .inl (fun _ => 0)))] := ⟨hP, hD⟩
  replace hP := hPD.1
  replace hD := hPD.2
  clear hPD
  refine lv_aload_n hx hb dX8_init_152 rfl (lv_at hl 0 rfl) ?_
  refine lv_sipush (v := 192) hx hb dX8_init_153 (by decide) ?_
  refine va_newa (atype := .int) (ty := .int) (a0 := (192, .inl (fun _ => 0))) (N' := 192) hx hb (htk _ wArr) rfl hK hP hD hS hA (fun _ => rfl) (by decide) rfl (by decide) (Nat.le_of_ble_eq_true rfl) (Nat.le_of_ble_eq_true rfl) dX8_init_156 (fun q35 c36 H hK1 hP hD hS => ?_)
  obtain rfl : cI = c36 := kc_same hK1 0 3 rfl rfl
  have hPD : kc_PD D A H [(h0, .inr (8, [.int 0, .ref q1, .int 0, .long 0, .long 1, .ref q3, .ref q5, .ref q7, .ref q9, .ref q11, .int 0, .int 1, .ref q13, .ref q15, .ref q17, .ref q19, .ref q21, .int 0, .int 0, .int 0, .ref q23, .ref q25, .int 0, .int 0, .int 0, .int 0, .ref q27, .int 0, .ref q29, .ref q31, .ref q33, .null, .null, .null, .null, .null, .long 0])), (q1, .inl (cI, 6, .inl (fun _ => 0))), (q3, .inl (cI, 6, .inl (fun _ => 0))), (q5, .inl (cI, 240, .inl (fun _ => 0))), (q7, .inl (cI, 40, .inl (fun _ => 0))), (q9, .inl (cI, 4, .inl (fun _ => 0))), (q11, .inl (cI, 240, .inl (fun _ => 0))), (q13, .inl (cI, 8, .inl (fun _ => 0))), (q15, .inl (cI, 6, .inl (fun _ => 0))), (q17, .inl (cI, 6, .inl (fun _ => 0))), (q19, .inl (cI, 6, .inl (fun _ => 0))), (q21, .inl (cI, 6, .inl (fun _ => 0))), (q23, .inl (cI, 8, .inl (fun _ => 0))), (q25, .inl (cI, 24, .inl (fun _ => 0))), (q27, .inl (cI, 6, .inl (fun _ => 0))), (q29, .inl (cI, 400, .inl (fun _ => 0))), (q31, .inl (cI, 3, .inl (fun _ => 0))), (q33, .inl (cI, 1233, .inl (fun _ => 0))), (q35, .inl (cI, 192, .inl (fun _ => 0)))] := ⟨hP, hD⟩
  replace hP := hPD.1
  replace hD := hPD.2
  clear hPD
  refine W.widen (k := 18) (n := 2434) (Nat.le_of_ble_eq_true rfl) (Nat.le_of_ble_eq_true rfl) ?_
  refine va_putF (D := D) (ci := 8) (v := .ref q35) (ty := .array .int) (C := RX8) (T := TX8) (N := 37) hx hb htk inW8 tyX8 tyX8_ok nmX8 hown hK hP hD hS 0 rfl rfl 31 (by decide) (htk _ kfX8_69) (fun _ h9 => h9) rfl hin rfl (by decide +kernel) rfl rfl (Nat.le_of_ble_eq_true rfl) dX8_init_158 (fun H locs hP hD hS => ?_)
  have hPD : kc_PD D A H [(h0, .inr (8, [.int 0, .ref q1, .int 0, .long 0, .long 1, .ref q3, .ref q5, .ref q7, .ref q9, .ref q11, .int 0, .int 1, .ref q13, .ref q15, .ref q17, .ref q19, .ref q21, .int 0, .int 0, .int 0, .ref q23, .ref q25, .int 0, .int 0, .int 0, .int 0, .ref q27, .int 0, .ref q29, .ref q31, .ref q33, .ref q35, .null, .null, .null, .null, .long 0])), (q1, .inl (cI, 6, .inl (fun _ => 0))), (q3, .inl (cI, 6, .inl (fun _ => 0))), (q5, .inl (cI, 240, .inl (fun _ => 0))), (q7, .inl (cI, 40, .inl (fun _ => 0))), (q9, .inl (cI, 4, .inl (fun _ => 0))), (q11, .inl (cI, 240, .inl (fun _ => 0))), (q13, .inl (cI, 8, .inl (fun _ => 0))), (q15, .inl (cI, 6, .inl (fun _ => 0))), (q17, .inl (cI, 6, .inl (fun _ => 0))), (q19, .inl (cI, 6, .inl (fun _ => 0))), (q21, .inl (cI, 6, .inl (fun _ => 0))), (q23, .inl (cI, 8, .inl (fun _ => 0))), (q25, .inl (cI, 24, .inl (fun _ => 0))), (q27, .inl (cI, 6, .inl (fun _ => 0))), (q29, .inl (cI, 400, .inl (fun _ => 0))), (q31, .inl (cI, 3, .inl (fun _ => 0))), (q33, .inl (cI, 1233, .inl (fun _ => 0))), (q35, .inl (cI, 192, .inl (fun _ => 0)))] := ⟨hP, hD⟩
  replace hP := hPD.1
  replace hD := hPD.2
  clear hPD
  refine lv_aload_n hx hb dX8_init_161 rfl (lv_at hl 0 rfl) ?_
  refine lv_sipush (v := 192) hx hb dX8_init_162 (by decide) ?_
  refine va_newa (atype := .int) (ty := .int) (a0 := (192, .inl (fun _ => 0))) (N' := 192) hx hb (htk _ wArr) rfl hK hP hD hS hA (fun _ => rfl) (by decide) rfl (by decide) (Nat.le_of_ble_eq_true rfl) (Nat.le_of_ble_eq_true rfl) dX8_init_165 (fun q37 c38 H hK1 hP hD hS => ?_)
  obtain rfl : cI = c38 := kc_same hK1 0 3 rfl rfl
  have hPD : kc_PD D A H [(h0, .inr (8, [.int 0, .ref q1, .int 0, .long 0, .long 1, .ref q3, .ref q5, .ref q7, .ref q9, .ref q11, .int 0, .int 1, .ref q13, .ref q15, .ref q17, .ref q19, .ref q21, .int 0, .int 0, .int 0, .ref q23, .ref q25, .int 0, .int 0, .int 0, .int 0, .ref q27, .int 0, .ref q29, .ref q31, .ref q33, .ref q35, .null, .null, .null, .null, .long 0])), (q1, .inl (cI, 6, .inl (fun _ => 0))), (q3, .inl (cI, 6, .inl (fun _ => 0))), (q5, .inl (cI, 240, .inl (fun _ => 0))), (q7, .inl (cI, 40, .inl (fun _ => 0))), (q9, .inl (cI, 4, .inl (fun _ => 0))), (q11, .inl (cI, 240, .inl (fun _ => 0))), (q13, .inl (cI, 8, .inl (fun _ => 0))), (q15, .inl (cI, 6, .inl (fun _ => 0))), (q17, .inl (cI, 6, .inl (fun _ => 0))), (q19, .inl (cI, 6, .inl (fun _ => 0))), (q21, .inl (cI, 6, .inl (fun _ => 0))), (q23, .inl (cI, 8, .inl (fun _ => 0))), (q25, .inl (cI, 24, .inl (fun _ => 0))), (q27, .inl (cI, 6, .inl (fun _ => 0))), (q29, .inl (cI, 400, .inl (fun _ => 0))), (q31, .inl (cI, 3, .inl (fun _ => 0))), (q33, .inl (cI, 1233, .inl (fun _ => 0))), (q35, .inl (cI, 192, .inl (fun _ => 0))), (q37, .inl (cI, 192, .inl (fun _ => 0)))] := ⟨hP, hD⟩
  replace hP := hPD.1
  replace hD := hPD.2
  clear hPD
  refine W.widen (k := 19) (n := 2626) (Nat.le_of_ble_eq_true rfl) (Nat.le_of_ble_eq_true rfl) ?_
  refine va_putF (D := D) (ci := 8) (v := .ref q37) (ty := .array .int) (C := RX8) (T := TX8) (N := 37) hx hb htk inW8 tyX8 tyX8_ok nmX8 hown hK hP hD hS 0 rfl rfl 32 (by decide) (htk _ kfX8_72) (fun _ h9 => h9) rfl hin rfl (by decide +kernel) rfl rfl (Nat.le_of_ble_eq_true rfl) dX8_init_167 (fun H locs hP hD hS => ?_)
  have hPD : kc_PD D A H [(h0, .inr (8, [.int 0, .ref q1, .int 0, .long 0, .long 1, .ref q3, .ref q5, .ref q7, .ref q9, .ref q11, .int 0, .int 1, .ref q13, .ref q15, .ref q17, .ref q19, .ref q21, .int 0, .int 0, .int 0, .ref q23, .ref q25, .int 0, .int 0, .int 0, .int 0, .ref q27, .int 0, .ref q29, .ref q31, .ref q33, .ref q35, .ref q37, .null, .null, .null, .long 0])), (q1, .inl (cI, 6, .inl (fun _ => 0))), (q3, .inl (cI, 6, .inl (fun _ => 0))), (q5, .inl (cI, 240, .inl (fun _ => 0))), (q7, .inl (cI, 40, .inl (fun _ => 0))), (q9, .inl (cI, 4, .inl (fun _ => 0))), (q11, .inl (cI, 240, .inl (fun _ => 0))), (q13, .inl (cI, 8, .inl (fun _ => 0))), (q15, .inl (cI, 6, .inl (fun _ => 0))), (q17, .inl (cI, 6, .inl (fun _ => 0))), (q19, .inl (cI, 6, .inl (fun _ => 0))), (q21, .inl (cI, 6, .inl (fun _ => 0))), (q23, .inl (cI, 8, .inl (fun _ => 0))), (q25, .inl (cI, 24, .inl (fun _ => 0))), (q27, .inl (cI, 6, .inl (fun _ => 0))), (q29, .inl (cI, 400, .inl (fun _ => 0))), (q31, .inl (cI, 3, .inl (fun _ => 0))), (q33, .inl (cI, 1233, .inl (fun _ => 0))), (q35, .inl (cI, 192, .inl (fun _ => 0))), (q37, .inl (cI, 192, .inl (fun _ => 0)))] := ⟨hP, hD⟩
  replace hP := hPD.1
  replace hD := hPD.2
  clear hPD
  refine lv_aload_n hx hb dX8_init_170 rfl (lv_at hl 0 rfl) ?_
  refine lv_iconst (v := 3) hx hb dX8_init_171 (by decide) ?_
  refine va_newa (atype := .int) (ty := .int) (a0 := (3, .inl (fun _ => 0))) (N' := 3) hx hb (htk _ wArr) rfl hK hP hD hS hA (fun _ => rfl) (by decide) rfl (by decide) (Nat.le_of_ble_eq_true rfl) (Nat.le_of_ble_eq_true rfl) dX8_init_172 (fun q39 c40 H hK1 hP hD hS => ?_)
  obtain rfl : cI = c40 := kc_same hK1 0 3 rfl rfl
  have hPD : kc_PD D A H [(h0, .inr (8, [.int 0, .ref q1, .int 0, .long 0, .long 1, .ref q3, .ref q5, .ref q7, .ref q9, .ref q11, .int 0, .int 1, .ref q13, .ref q15, .ref q17, .ref q19, .ref q21, .int 0, .int 0, .int 0, .ref q23, .ref q25, .int 0, .int 0, .int 0, .int 0, .ref q27, .int 0, .ref q29, .ref q31, .ref q33, .ref q35, .ref q37, .null, .null, .null, .long 0])), (q1, .inl (cI, 6, .inl (fun _ => 0))), (q3, .inl (cI, 6, .inl (fun _ => 0))), (q5, .inl (cI, 240, .inl (fun _ => 0))), (q7, .inl (cI, 40, .inl (fun _ => 0))), (q9, .inl (cI, 4, .inl (fun _ => 0))), (q11, .inl (cI, 240, .inl (fun _ => 0))), (q13, .inl (cI, 8, .inl (fun _ => 0))), (q15, .inl (cI, 6, .inl (fun _ => 0))), (q17, .inl (cI, 6, .inl (fun _ => 0))), (q19, .inl (cI, 6, .inl (fun _ => 0))), (q21, .inl (cI, 6, .inl (fun _ => 0))), (q23, .inl (cI, 8, .inl (fun _ => 0))), (q25, .inl (cI, 24, .inl (fun _ => 0))), (q27, .inl (cI, 6, .inl (fun _ => 0))), (q29, .inl (cI, 400, .inl (fun _ => 0))), (q31, .inl (cI, 3, .inl (fun _ => 0))), (q33, .inl (cI, 1233, .inl (fun _ => 0))), (q35, .inl (cI, 192, .inl (fun _ => 0))), (q37, .inl (cI, 192, .inl (fun _ => 0))), (q39, .inl (cI, 3, .inl (fun _ => 0)))] := ⟨hP, hD⟩
  replace hP := hPD.1
  replace hD := hPD.2
  clear hPD
  refine W.widen (k := 20) (n := 2629) (Nat.le_of_ble_eq_true rfl) (Nat.le_of_ble_eq_true rfl) ?_
  refine va_putF (D := D) (ci := 8) (v := .ref q39) (ty := .array .int) (C := RX8) (T := TX8) (N := 37) hx hb htk inW8 tyX8 tyX8_ok nmX8 hown hK hP hD hS 0 rfl rfl 33 (by decide) (htk _ kfX8_75) (fun _ h9 => h9) rfl hin rfl (by decide +kernel) rfl rfl (Nat.le_of_ble_eq_true rfl) dX8_init_174 (fun H locs hP hD hS => ?_)
  have hPD : kc_PD D A H [(h0, .inr (8, [.int 0, .ref q1, .int 0, .long 0, .long 1, .ref q3, .ref q5, .ref q7, .ref q9, .ref q11, .int 0, .int 1, .ref q13, .ref q15, .ref q17, .ref q19, .ref q21, .int 0, .int 0, .int 0, .ref q23, .ref q25, .int 0, .int 0, .int 0, .int 0, .ref q27, .int 0, .ref q29, .ref q31, .ref q33, .ref q35, .ref q37, .ref q39, .null, .null, .long 0])), (q1, .inl (cI, 6, .inl (fun _ => 0))), (q3, .inl (cI, 6, .inl (fun _ => 0))), (q5, .inl (cI, 240, .inl (fun _ => 0))), (q7, .inl (cI, 40, .inl (fun _ => 0))), (q9, .inl (cI, 4, .inl (fun _ => 0))), (q11, .inl (cI, 240, .inl (fun _ => 0))), (q13, .inl (cI, 8, .inl (fun _ => 0))), (q15, .inl (cI, 6, .inl (fun _ => 0))), (q17, .inl (cI, 6, .inl (fun _ => 0))), (q19, .inl (cI, 6, .inl (fun _ => 0))), (q21, .inl (cI, 6, .inl (fun _ => 0))), (q23, .inl (cI, 8, .inl (fun _ => 0))), (q25, .inl (cI, 24, .inl (fun _ => 0))), (q27, .inl (cI, 6, .inl (fun _ => 0))), (q29, .inl (cI, 400, .inl (fun _ => 0))), (q31, .inl (cI, 3, .inl (fun _ => 0))), (q33, .inl (cI, 1233, .inl (fun _ => 0))), (q35, .inl (cI, 192, .inl (fun _ => 0))), (q37, .inl (cI, 192, .inl (fun _ => 0))), (q39, .inl (cI, 3, .inl (fun _ => 0)))] := ⟨hP, hD⟩
  replace hP := hPD.1
  replace hD := hPD.2
  clear hPD
  refine lv_aload_n hx hb dX8_init_177 rfl (lv_at hl 0 rfl) ?_
  refine lv_bipush (v := 64) hx hb dX8_init_178 (by decide) ?_
  refine va_newa (atype := .int) (ty := .int) (a0 := (64, .inl (fun _ => 0))) (N' := 64) hx hb (htk _ wArr) rfl hK hP hD hS hA (fun _ => rfl) (by decide) rfl (by decide) (Nat.le_of_ble_eq_true rfl) (Nat.le_of_ble_eq_true rfl) dX8_init_180 (fun q41 c42 H hK1 hP hD hS => ?_)
  obtain rfl : cI = c42 := kc_same hK1 0 3 rfl rfl
  have hPD : kc_PD D A H [(h0, .inr (8, [.int 0, .ref q1, .int 0, .long 0, .long 1, .ref q3, .ref q5, .ref q7, .ref q9, .ref q11, .int 0, .int 1, .ref q13, .ref q15, .ref q17, .ref q19, .ref q21, .int 0, .int 0, .int 0, .ref q23, .ref q25, .int 0, .int 0, .int 0, .int 0, .ref q27, .int 0, .ref q29, .ref q31, .ref q33, .ref q35, .ref q37, .ref q39, .null, .null, .long 0])), (q1, .inl (cI, 6, .inl (fun _ => 0))), (q3, .inl (cI, 6, .inl (fun _ => 0))), (q5, .inl (cI, 240, .inl (fun _ => 0))), (q7, .inl (cI, 40, .inl (fun _ => 0))), (q9, .inl (cI, 4, .inl (fun _ => 0))), (q11, .inl (cI, 240, .inl (fun _ => 0))), (q13, .inl (cI, 8, .inl (fun _ => 0))), (q15, .inl (cI, 6, .inl (fun _ => 0))), (q17, .inl (cI, 6, .inl (fun _ => 0))), (q19, .inl (cI, 6, .inl (fun _ => 0))), (q21, .inl (cI, 6, .inl (fun _ => 0))), (q23, .inl (cI, 8, .inl (fun _ => 0))), (q25, .inl (cI, 24, .inl (fun _ => 0))), (q27, .inl (cI, 6, .inl (fun _ => 0))), (q29, .inl (cI, 400, .inl (fun _ => 0))), (q31, .inl (cI, 3, .inl (fun _ => 0))), (q33, .inl (cI, 1233, .inl (fun _ => 0))), (q35, .inl (cI, 192, .inl (fun _ => 0))), (q37, .inl (cI, 192, .inl (fun _ => 0))), (q39, .inl (cI, 3, .inl (fun _ => 0))), (q41, .inl (cI, 64, .inl (fun _ => 0)))] := ⟨hP, hD⟩
  replace hP := hPD.1
  replace hD := hPD.2
  clear hPD
  refine W.widen (k := 21) (n := 2693) (Nat.le_of_ble_eq_true rfl) (Nat.le_of_ble_eq_true rfl) ?_
  refine va_putF (D := D) (ci := 8) (v := .ref q41) (ty := .array .int) (C := RX8) (T := TX8) (N := 37) hx hb htk inW8 tyX8 tyX8_ok nmX8 hown hK hP hD hS 0 rfl rfl 34 (by decide) (htk _ kfX8_78) (fun _ h9 => h9) rfl hin rfl (by decide +kernel) rfl rfl (Nat.le_of_ble_eq_true rfl) dX8_init_182 (fun H locs hP hD hS => ?_)
  have hPD : kc_PD D A H [(h0, .inr (8, [.int 0, .ref q1, .int 0, .long 0, .long 1, .ref q3, .ref q5, .ref q7, .ref q9, .ref q11, .int 0, .int 1, .ref q13, .ref q15, .ref q17, .ref q19, .ref q21, .int 0, .int 0, .int 0, .ref q23, .ref q25, .int 0, .int 0, .int 0, .int 0, .ref q27, .int 0, .ref q29, .ref q31, .ref q33, .ref q35, .ref q37, .ref q39, .ref q41, .null, .long 0])), (q1, .inl (cI, 6, .inl (fun _ => 0))), (q3, .inl (cI, 6, .inl (fun _ => 0))), (q5, .inl (cI, 240, .inl (fun _ => 0))), (q7, .inl (cI, 40, .inl (fun _ => 0))), (q9, .inl (cI, 4, .inl (fun _ => 0))), (q11, .inl (cI, 240, .inl (fun _ => 0))), (q13, .inl (cI, 8, .inl (fun _ => 0))), (q15, .inl (cI, 6, .inl (fun _ => 0))), (q17, .inl (cI, 6, .inl (fun _ => 0))), (q19, .inl (cI, 6, .inl (fun _ => 0))), (q21, .inl (cI, 6, .inl (fun _ => 0))), (q23, .inl (cI, 8, .inl (fun _ => 0))), (q25, .inl (cI, 24, .inl (fun _ => 0))), (q27, .inl (cI, 6, .inl (fun _ => 0))), (q29, .inl (cI, 400, .inl (fun _ => 0))), (q31, .inl (cI, 3, .inl (fun _ => 0))), (q33, .inl (cI, 1233, .inl (fun _ => 0))), (q35, .inl (cI, 192, .inl (fun _ => 0))), (q37, .inl (cI, 192, .inl (fun _ => 0))), (q39, .inl (cI, 3, .inl (fun _ => 0))), (q41, .inl (cI, 64, .inl (fun _ => 0)))] := ⟨hP, hD⟩
  replace hP := hPD.1
  replace hD := hPD.2
  clear hPD
  refine lv_aload_n hx hb dX8_init_185 rfl (lv_at hl 0 rfl) ?_
  refine lv_bipush (v := 64) hx hb dX8_init_186 (by decide) ?_
  refine va_newa (atype := .int) (ty := .int) (a0 := (64, .inl (fun _ => 0))) (N' := 64) hx hb (htk _ wArr) rfl hK hP hD hS hA (fun _ => rfl) (by decide) rfl (by decide) (Nat.le_of_ble_eq_true rfl) (Nat.le_of_ble_eq_true rfl) dX8_init_188 (fun q43 c44 H hK1 hP hD hS => ?_)
  obtain rfl : cI = c44 := kc_same hK1 0 3 rfl rfl
  have hPD : kc_PD D A H [(h0, .inr (8, [.int 0, .ref q1, .int 0, .long 0, .long 1, .ref q3, .ref q5, .ref q7, .ref q9, .ref q11, .int 0, .int 1, .ref q13, .ref q15, .ref q17, .ref q19, .ref q21, .int 0, .int 0, .int 0, .ref q23, .ref q25, .int 0, .int 0, .int 0, .int 0, .ref q27, .int 0, .ref q29, .ref q31, .ref q33, .ref q35, .ref q37, .ref q39, .ref q41, .null, .long 0])), (q1, .inl (cI, 6, .inl (fun _ => 0))), (q3, .inl (cI, 6, .inl (fun _ => 0))), (q5, .inl (cI, 240, .inl (fun _ => 0))), (q7, .inl (cI, 40, .inl (fun _ => 0))), (q9, .inl (cI, 4, .inl (fun _ => 0))), (q11, .inl (cI, 240, .inl (fun _ => 0))), (q13, .inl (cI, 8, .inl (fun _ => 0))), (q15, .inl (cI, 6, .inl (fun _ => 0))), (q17, .inl (cI, 6, .inl (fun _ => 0))), (q19, .inl (cI, 6, .inl (fun _ => 0))), (q21, .inl (cI, 6, .inl (fun _ => 0))), (q23, .inl (cI, 8, .inl (fun _ => 0))), (q25, .inl (cI, 24, .inl (fun _ => 0))), (q27, .inl (cI, 6, .inl (fun _ => 0))), (q29, .inl (cI, 400, .inl (fun _ => 0))), (q31, .inl (cI, 3, .inl (fun _ => 0))), (q33, .inl (cI, 1233, .inl (fun _ => 0))), (q35, .inl (cI, 192, .inl (fun _ => 0))), (q37, .inl (cI, 192, .inl (fun _ => 0))), (q39, .inl (cI, 3, .inl (fun _ => 0))), (q41, .inl (cI, 64, .inl (fun _ => 0))), (q43, .inl (cI, 64, .inl (fun _ => 0)))] := ⟨hP, hD⟩
  replace hP := hPD.1
  replace hD := hPD.2
  clear hPD
  refine W.widen (k := 22) (n := 2757) (Nat.le_of_ble_eq_true rfl) (Nat.le_of_ble_eq_true rfl) ?_
  refine va_putF (D := D) (ci := 8) (v := .ref q43) (ty := .array .int) (C := RX8) (T := TX8) (N := 37) hx hb htk inW8 tyX8 tyX8_ok nmX8 hown hK hP hD hS 0 rfl rfl 35 (by decide) (htk _ kfX8_81) (fun _ h9 => h9) rfl hin rfl (by decide +kernel) rfl rfl (Nat.le_of_ble_eq_true rfl) dX8_init_190 (fun H locs hP hD hS => ?_)
  have hPD : kc_PD D A H [(h0, .inr (8, [.int 0, .ref q1, .int 0, .long 0, .long 1, .ref q3, .ref q5, .ref q7, .ref q9, .ref q11, .int 0, .int 1, .ref q13, .ref q15, .ref q17, .ref q19, .ref q21, .int 0, .int 0, .int 0, .ref q23, .ref q25, .int 0, .int 0, .int 0, .int 0, .ref q27, .int 0, .ref q29, .ref q31, .ref q33, .ref q35, .ref q37, .ref q39, .ref q41, .ref q43, .long 0])), (q1, .inl (cI, 6, .inl (fun _ => 0))), (q3, .inl (cI, 6, .inl (fun _ => 0))), (q5, .inl (cI, 240, .inl (fun _ => 0))), (q7, .inl (cI, 40, .inl (fun _ => 0))), (q9, .inl (cI, 4, .inl (fun _ => 0))), (q11, .inl (cI, 240, .inl (fun _ => 0))), (q13, .inl (cI, 8, .inl (fun _ => 0))), (q15, .inl (cI, 6, .inl (fun _ => 0))), (q17, .inl (cI, 6, .inl (fun _ => 0))), (q19, .inl (cI, 6, .inl (fun _ => 0))), (q21, .inl (cI, 6, .inl (fun _ => 0))), (q23, .inl (cI, 8, .inl (fun _ => 0))), (q25, .inl (cI, 24, .inl (fun _ => 0))), (q27, .inl (cI, 6, .inl (fun _ => 0))), (q29, .inl (cI, 400, .inl (fun _ => 0))), (q31, .inl (cI, 3, .inl (fun _ => 0))), (q33, .inl (cI, 1233, .inl (fun _ => 0))), (q35, .inl (cI, 192, .inl (fun _ => 0))), (q37, .inl (cI, 192, .inl (fun _ => 0))), (q39, .inl (cI, 3, .inl (fun _ => 0))), (q41, .inl (cI, 64, .inl (fun _ => 0))), (q43, .inl (cI, 64, .inl (fun _ => 0)))] := ⟨hP, hD⟩
  replace hP := hPD.1
  replace hD := hPD.2
  clear hPD
  refine lv_iconst (v := 0) hx hb dX8_init_193 (by decide) ?_
  refine lv_istore_n (lv' := [(1, .int 0), (0, .ref h0)]) hx hb dX8_init_194 rfl hl (by decide) rfl (fun ls hl => ?_)
  refine lv_iload_n hx hb dX8_init_195 rfl (lv_at hl 0 rfl) ?_
  refine lv_bipush (v := 6) hx hb dX8_init_196 (by decide) ?_
  refine lv_icmp_ge (tgt := 215) hx hb dX8_init_198 (by decide) (fun c9 => absurd c9 (by decide)) (fun _ => ?_)
  refine lv_aload_n hx hb dX8_init_201 rfl (lv_at hl 1 rfl) ?_
  refine va_get (D := D) (ci := 8) (v := .ref q3) (C := RX8) (T := TX8) (N := 37) hx hb htk inW8 hown hK hP 0 rfl rfl 5 (by decide) (htk _ kfX8_17) (fun _ h9 => h9) rfl dX8_init_202 ?_
  refine lv_iload_n hx hb dX8_init_205 rfl (lv_at hl 0 rfl) ?_
  refine lv_bipush (v := (-9)) hx hb dX8_init_206 (by decide) ?_
  refine va_iast (D := D) (n := 6) (f := fun _ => 0) (i := 0) (x := (-9)) hx hb hK hP hD hS 2 0 rfl rfl (kw_in (by decide) (by decide)) dX8_init_208 (fun H locs hP hD hS => ?_)
  have hPD : kc_PD D A H [(h0, .inr (8, [.int 0, .ref q1, .int 0, .long 0, .long 1, .ref q3, .ref q5, .ref q7, .ref q9, .ref q11, .int 0, .int 1, .ref q13, .ref q15, .ref q17, .ref q19, .ref q21, .int 0, .int 0, .int 0, .ref q23, .ref q25, .int 0, .int 0, .int 0, .int 0, .ref q27, .int 0, .ref q29, .ref q31, .ref q33, .ref q35, .ref q37, .ref q39, .ref q41, .ref q43, .long 0])), (q1, .inl (cI, 6, .inl (fun _ => 0))), (q3, .inl (cI, 6, .inl (upd (fun _ => 0) 0 (-9)))), (q5, .inl (cI, 240, .inl (fun _ => 0))), (q7, .inl (cI, 40, .inl (fun _ => 0))), (q9, .inl (cI, 4, .inl (fun _ => 0))), (q11, .inl (cI, 240, .inl (fun _ => 0))), (q13, .inl (cI, 8, .inl (fun _ => 0))), (q15, .inl (cI, 6, .inl (fun _ => 0))), (q17, .inl (cI, 6, .inl (fun _ => 0))), (q19, .inl (cI, 6, .inl (fun _ => 0))), (q21, .inl (cI, 6, .inl (fun _ => 0))), (q23, .inl (cI, 8, .inl (fun _ => 0))), (q25, .inl (cI, 24, .inl (fun _ => 0))), (q27, .inl (cI, 6, .inl (fun _ => 0))), (q29, .inl (cI, 400, .inl (fun _ => 0))), (q31, .inl (cI, 3, .inl (fun _ => 0))), (q33, .inl (cI, 1233, .inl (fun _ => 0))), (q35, .inl (cI, 192, .inl (fun _ => 0))), (q37, .inl (cI, 192, .inl (fun _ => 0))), (q39, .inl (cI, 3, .inl (fun _ => 0))), (q41, .inl (cI, 64, .inl (fun _ => 0))), (q43, .inl (cI, 64, .inl (fun _ => 0)))] := ⟨hP, hD⟩
  replace hP := hPD.1
  replace hD := hPD.2
  clear hPD
  refine lv_iinc (v := 1) (lv' := [(1, .int 1), (0, .ref h0)]) hx hb dX8_init_209 hl (k := 0) rfl (by decide) (by decide) rfl (fun ls hl => ?_)
  refine lv_goto (tgt := 195) hx hb dX8_init_212 (by decide) ?_
  refine lv_iload_n hx hb dX8_init_195 rfl (lv_at hl 0 rfl) ?_
  refine lv_bipush (v := 6) hx hb dX8_init_196 (by decide) ?_
  refine lv_icmp_ge (tgt := 215) hx hb dX8_init_198 (by decide) (fun c9 => absurd c9 (by decide)) (fun _ => ?_)
  refine lv_aload_n hx hb dX8_init_201 rfl (lv_at hl 1 rfl) ?_
  refine va_get (D := D) (ci := 8) (v := .ref q3) (C := RX8) (T := TX8) (N := 37) hx hb htk inW8 hown hK hP 0 rfl rfl 5 (by decide) (htk _ kfX8_17) (fun _ h9 => h9) rfl dX8_init_202 ?_
  refine lv_iload_n hx hb dX8_init_205 rfl (lv_at hl 0 rfl) ?_
  refine lv_bipush (v := (-9)) hx hb dX8_init_206 (by decide) ?_
  refine va_iast (D := D) (n := 6) (f := upd (fun _ => 0) 0 (-9)) (i := 1) (x := (-9)) hx hb hK hP hD hS 2 0 rfl rfl (kw_in (by decide) (by decide)) dX8_init_208 (fun H locs hP hD hS => ?_)
  have hPD : kc_PD D A H [(h0, .inr (8, [.int 0, .ref q1, .int 0, .long 0, .long 1, .ref q3, .ref q5, .ref q7, .ref q9, .ref q11, .int 0, .int 1, .ref q13, .ref q15, .ref q17, .ref q19, .ref q21, .int 0, .int 0, .int 0, .ref q23, .ref q25, .int 0, .int 0, .int 0, .int 0, .ref q27, .int 0, .ref q29, .ref q31, .ref q33, .ref q35, .ref q37, .ref q39, .ref q41, .ref q43, .long 0])), (q1, .inl (cI, 6, .inl (fun _ => 0))), (q3, .inl (cI, 6, .inl (upd (upd (fun _ => 0) 0 (-9)) 1 (-9)))), (q5, .inl (cI, 240, .inl (fun _ => 0))), (q7, .inl (cI, 40, .inl (fun _ => 0))), (q9, .inl (cI, 4, .inl (fun _ => 0))), (q11, .inl (cI, 240, .inl (fun _ => 0))), (q13, .inl (cI, 8, .inl (fun _ => 0))), (q15, .inl (cI, 6, .inl (fun _ => 0))), (q17, .inl (cI, 6, .inl (fun _ => 0))), (q19, .inl (cI, 6, .inl (fun _ => 0))), (q21, .inl (cI, 6, .inl (fun _ => 0))), (q23, .inl (cI, 8, .inl (fun _ => 0))), (q25, .inl (cI, 24, .inl (fun _ => 0))), (q27, .inl (cI, 6, .inl (fun _ => 0))), (q29, .inl (cI, 400, .inl (fun _ => 0))), (q31, .inl (cI, 3, .inl (fun _ => 0))), (q33, .inl (cI, 1233, .inl (fun _ => 0))), (q35, .inl (cI, 192, .inl (fun _ => 0))), (q37, .inl (cI, 192, .inl (fun _ => 0))), (q39, .inl (cI, 3, .inl (fun _ => 0))), (q41, .inl (cI, 64, .inl (fun _ => 0))), (q43, .inl (cI, 64, .inl (fun _ => 0)))] := ⟨hP, hD⟩
  replace hP := hPD.1
  replace hD := hPD.2
  clear hPD
  refine lv_iinc (v := 2) (lv' := [(1, .int 2), (0, .ref h0)]) hx hb dX8_init_209 hl (k := 0) rfl (by decide) (by decide) rfl (fun ls hl => ?_)
  refine lv_goto (tgt := 195) hx hb dX8_init_212 (by decide) ?_
  refine lv_iload_n hx hb dX8_init_195 rfl (lv_at hl 0 rfl) ?_
  refine lv_bipush (v := 6) hx hb dX8_init_196 (by decide) ?_
  refine lv_icmp_ge (tgt := 215) hx hb dX8_init_198 (by decide) (fun c9 => absurd c9 (by decide)) (fun _ => ?_)
  refine lv_aload_n hx hb dX8_init_201 rfl (lv_at hl 1 rfl) ?_
  refine va_get (D := D) (ci := 8) (v := .ref q3) (C := RX8) (T := TX8) (N := 37) hx hb htk inW8 hown hK hP 0 rfl rfl 5 (by decide) (htk _ kfX8_17) (fun _ h9 => h9) rfl dX8_init_202 ?_
  refine lv_iload_n hx hb dX8_init_205 rfl (lv_at hl 0 rfl) ?_
  refine lv_bipush (v := (-9)) hx hb dX8_init_206 (by decide) ?_
  refine va_iast (D := D) (n := 6) (f := upd (upd (fun _ => 0) 0 (-9)) 1 (-9)) (i := 2) (x := (-9)) hx hb hK hP hD hS 2 0 rfl rfl (kw_in (by decide) (by decide)) dX8_init_208 (fun H locs hP hD hS => ?_)
  have hPD : kc_PD D A H [(h0, .inr (8, [.int 0, .ref q1, .int 0, .long 0, .long 1, .ref q3, .ref q5, .ref q7, .ref q9, .ref q11, .int 0, .int 1, .ref q13, .ref q15, .ref q17, .ref q19, .ref q21, .int 0, .int 0, .int 0, .ref q23, .ref q25, .int 0, .int 0, .int 0, .int 0, .ref q27, .int 0, .ref q29, .ref q31, .ref q33, .ref q35, .ref q37, .ref q39, .ref q41, .ref q43, .long 0])), (q1, .inl (cI, 6, .inl (fun _ => 0))), (q3, .inl (cI, 6, .inl (upd (upd (upd (fun _ => 0) 0 (-9)) 1 (-9)) 2 (-9)))), (q5, .inl (cI, 240, .inl (fun _ => 0))), (q7, .inl (cI, 40, .inl (fun _ => 0))), (q9, .inl (cI, 4, .inl (fun _ => 0))), (q11, .inl (cI, 240, .inl (fun _ => 0))), (q13, .inl (cI, 8, .inl (fun _ => 0))), (q15, .inl (cI, 6, .inl (fun _ => 0))), (q17, .inl (cI, 6, .inl (fun _ => 0))), (q19, .inl (cI, 6, .inl (fun _ => 0))), (q21, .inl (cI, 6, .inl (fun _ => 0))), (q23, .inl (cI, 8, .inl (fun _ => 0))), (q25, .inl (cI, 24, .inl (fun _ => 0))), (q27, .inl (cI, 6, .inl (fun _ => 0))), (q29, .inl (cI, 400, .inl (fun _ => 0))), (q31, .inl (cI, 3, .inl (fun _ => 0))), (q33, .inl (cI, 1233, .inl (fun _ => 0))), (q35, .inl (cI, 192, .inl (fun _ => 0))), (q37, .inl (cI, 192, .inl (fun _ => 0))), (q39, .inl (cI, 3, .inl (fun _ => 0))), (q41, .inl (cI, 64, .inl (fun _ => 0))), (q43, .inl (cI, 64, .inl (fun _ => 0)))] := ⟨hP, hD⟩
  replace hP := hPD.1
  replace hD := hPD.2
  clear hPD
  refine lv_iinc (v := 3) (lv' := [(1, .int 3), (0, .ref h0)]) hx hb dX8_init_209 hl (k := 0) rfl (by decide) (by decide) rfl (fun ls hl => ?_)
  refine lv_goto (tgt := 195) hx hb dX8_init_212 (by decide) ?_
  refine lv_iload_n hx hb dX8_init_195 rfl (lv_at hl 0 rfl) ?_
  refine lv_bipush (v := 6) hx hb dX8_init_196 (by decide) ?_
  refine lv_icmp_ge (tgt := 215) hx hb dX8_init_198 (by decide) (fun c9 => absurd c9 (by decide)) (fun _ => ?_)
  refine lv_aload_n hx hb dX8_init_201 rfl (lv_at hl 1 rfl) ?_
  refine va_get (D := D) (ci := 8) (v := .ref q3) (C := RX8) (T := TX8) (N := 37) hx hb htk inW8 hown hK hP 0 rfl rfl 5 (by decide) (htk _ kfX8_17) (fun _ h9 => h9) rfl dX8_init_202 ?_
  refine lv_iload_n hx hb dX8_init_205 rfl (lv_at hl 0 rfl) ?_
  refine lv_bipush (v := (-9)) hx hb dX8_init_206 (by decide) ?_
  refine va_iast (D := D) (n := 6) (f := upd (upd (upd (fun _ => 0) 0 (-9)) 1 (-9)) 2 (-9)) (i := 3) (x := (-9)) hx hb hK hP hD hS 2 0 rfl rfl (kw_in (by decide) (by decide)) dX8_init_208 (fun H locs hP hD hS => ?_)
  have hPD : kc_PD D A H [(h0, .inr (8, [.int 0, .ref q1, .int 0, .long 0, .long 1, .ref q3, .ref q5, .ref q7, .ref q9, .ref q11, .int 0, .int 1, .ref q13, .ref q15, .ref q17, .ref q19, .ref q21, .int 0, .int 0, .int 0, .ref q23, .ref q25, .int 0, .int 0, .int 0, .int 0, .ref q27, .int 0, .ref q29, .ref q31, .ref q33, .ref q35, .ref q37, .ref q39, .ref q41, .ref q43, .long 0])), (q1, .inl (cI, 6, .inl (fun _ => 0))), (q3, .inl (cI, 6, .inl (upd (upd (upd (upd (fun _ => 0) 0 (-9)) 1 (-9)) 2 (-9)) 3 (-9)))), (q5, .inl (cI, 240, .inl (fun _ => 0))), (q7, .inl (cI, 40, .inl (fun _ => 0))), (q9, .inl (cI, 4, .inl (fun _ => 0))), (q11, .inl (cI, 240, .inl (fun _ => 0))), (q13, .inl (cI, 8, .inl (fun _ => 0))), (q15, .inl (cI, 6, .inl (fun _ => 0))), (q17, .inl (cI, 6, .inl (fun _ => 0))), (q19, .inl (cI, 6, .inl (fun _ => 0))), (q21, .inl (cI, 6, .inl (fun _ => 0))), (q23, .inl (cI, 8, .inl (fun _ => 0))), (q25, .inl (cI, 24, .inl (fun _ => 0))), (q27, .inl (cI, 6, .inl (fun _ => 0))), (q29, .inl (cI, 400, .inl (fun _ => 0))), (q31, .inl (cI, 3, .inl (fun _ => 0))), (q33, .inl (cI, 1233, .inl (fun _ => 0))), (q35, .inl (cI, 192, .inl (fun _ => 0))), (q37, .inl (cI, 192, .inl (fun _ => 0))), (q39, .inl (cI, 3, .inl (fun _ => 0))), (q41, .inl (cI, 64, .inl (fun _ => 0))), (q43, .inl (cI, 64, .inl (fun _ => 0)))] := ⟨hP, hD⟩
  replace hP := hPD.1
  replace hD := hPD.2
  clear hPD
  refine lv_iinc (v := 4) (lv' := [(1, .int 4), (0, .ref h0)]) hx hb dX8_init_209 hl (k := 0) rfl (by decide) (by decide) rfl (fun ls hl => ?_)
  refine lv_goto (tgt := 195) hx hb dX8_init_212 (by decide) ?_
  refine lv_iload_n hx hb dX8_init_195 rfl (lv_at hl 0 rfl) ?_
  refine lv_bipush (v := 6) hx hb dX8_init_196 (by decide) ?_
  refine lv_icmp_ge (tgt := 215) hx hb dX8_init_198 (by decide) (fun c9 => absurd c9 (by decide)) (fun _ => ?_)
  refine lv_aload_n hx hb dX8_init_201 rfl (lv_at hl 1 rfl) ?_
  refine va_get (D := D) (ci := 8) (v := .ref q3) (C := RX8) (T := TX8) (N := 37) hx hb htk inW8 hown hK hP 0 rfl rfl 5 (by decide) (htk _ kfX8_17) (fun _ h9 => h9) rfl dX8_init_202 ?_
  refine lv_iload_n hx hb dX8_init_205 rfl (lv_at hl 0 rfl) ?_
  refine lv_bipush (v := (-9)) hx hb dX8_init_206 (by decide) ?_
  refine va_iast (D := D) (n := 6) (f := upd (upd (upd (upd (fun _ => 0) 0 (-9)) 1 (-9)) 2 (-9)) 3 (-9)) (i := 4) (x := (-9)) hx hb hK hP hD hS 2 0 rfl rfl (kw_in (by decide) (by decide)) dX8_init_208 (fun H locs hP hD hS => ?_)
  have hPD : kc_PD D A H [(h0, .inr (8, [.int 0, .ref q1, .int 0, .long 0, .long 1, .ref q3, .ref q5, .ref q7, .ref q9, .ref q11, .int 0, .int 1, .ref q13, .ref q15, .ref q17, .ref q19, .ref q21, .int 0, .int 0, .int 0, .ref q23, .ref q25, .int 0, .int 0, .int 0, .int 0, .ref q27, .int 0, .ref q29, .ref q31, .ref q33, .ref q35, .ref q37, .ref q39, .ref q41, .ref q43, .long 0])), (q1, .inl (cI, 6, .inl (fun _ => 0))), (q3, .inl (cI, 6, .inl (upd (upd (upd (upd (upd (fun _ => 0) 0 (-9)) 1 (-9)) 2 (-9)) 3 (-9)) 4 (-9)))), (q5, .inl (cI, 240, .inl (fun _ => 0))), (q7, .inl (cI, 40, .inl (fun _ => 0))), (q9, .inl (cI, 4, .inl (fun _ => 0))), (q11, .inl (cI, 240, .inl (fun _ => 0))), (q13, .inl (cI, 8, .inl (fun _ => 0))), (q15, .inl (cI, 6, .inl (fun _ => 0))), (q17, .inl (cI, 6, .inl (fun _ => 0))), (q19, .inl (cI, 6, .inl (fun _ => 0))), (q21, .inl (cI, 6, .inl (fun _ => 0))), (q23, .inl (cI, 8, .inl (fun _ => 0))), (q25, .inl (cI, 24, .inl (fun _ => 0))), (q27, .inl (cI, 6, .inl (fun _ => 0))), (q29, .inl (cI, 400, .inl (fun _ => 0))), (q31, .inl (cI, 3, .inl (fun _ => 0))), (q33, .inl (cI, 1233, .inl (fun _ => 0))), (q35, .inl (cI, 192, .inl (fun _ => 0))), (q37, .inl (cI, 192, .inl (fun _ => 0))), (q39, .inl (cI, 3, .inl (fun _ => 0))), (q41, .inl (cI, 64, .inl (fun _ => 0))), (q43, .inl (cI, 64, .inl (fun _ => 0)))] := ⟨hP, hD⟩
  replace hP := hPD.1
  replace hD := hPD.2
  clear hPD
  refine lv_iinc (v := 5) (lv' := [(1, .int 5), (0, .ref h0)]) hx hb dX8_init_209 hl (k := 0) rfl (by decide) (by decide) rfl (fun ls hl => ?_)
  refine lv_goto (tgt := 195) hx hb dX8_init_212 (by decide) ?_
  refine lv_iload_n hx hb dX8_init_195 rfl (lv_at hl 0 rfl) ?_
  refine lv_bipush (v := 6) hx hb dX8_init_196 (by decide) ?_
  refine lv_icmp_ge (tgt := 215) hx hb dX8_init_198 (by decide) (fun c9 => absurd c9 (by decide)) (fun _ => ?_)
  refine lv_aload_n hx hb dX8_init_201 rfl (lv_at hl 1 rfl) ?_
  refine va_get (D := D) (ci := 8) (v := .ref q3) (C := RX8) (T := TX8) (N := 37) hx hb htk inW8 hown hK hP 0 rfl rfl 5 (by decide) (htk _ kfX8_17) (fun _ h9 => h9) rfl dX8_init_202 ?_
  refine lv_iload_n hx hb dX8_init_205 rfl (lv_at hl 0 rfl) ?_
  refine lv_bipush (v := (-9)) hx hb dX8_init_206 (by decide) ?_
  refine va_iast (D := D) (n := 6) (f := upd (upd (upd (upd (upd (fun _ => 0) 0 (-9)) 1 (-9)) 2 (-9)) 3 (-9)) 4 (-9)) (i := 5) (x := (-9)) hx hb hK hP hD hS 2 0 rfl rfl (kw_in (by decide) (by decide)) dX8_init_208 (fun H locs hP hD hS => ?_)
  have hPD : kc_PD D A H [(h0, .inr (8, [.int 0, .ref q1, .int 0, .long 0, .long 1, .ref q3, .ref q5, .ref q7, .ref q9, .ref q11, .int 0, .int 1, .ref q13, .ref q15, .ref q17, .ref q19, .ref q21, .int 0, .int 0, .int 0, .ref q23, .ref q25, .int 0, .int 0, .int 0, .int 0, .ref q27, .int 0, .ref q29, .ref q31, .ref q33, .ref q35, .ref q37, .ref q39, .ref q41, .ref q43, .long 0])), (q1, .inl (cI, 6, .inl (fun _ => 0))), (q3, .inl (cI, 6, .inl (upd (upd (upd (upd (upd (upd (fun _ => 0) 0 (-9)) 1 (-9)) 2 (-9)) 3 (-9)) 4 (-9)) 5 (-9)))), (q5, .inl (cI, 240, .inl (fun _ => 0))), (q7, .inl (cI, 40, .inl (fun _ => 0))), (q9, .inl (cI, 4, .inl (fun _ => 0))), (q11, .inl (cI, 240, .inl (fun _ => 0))), (q13, .inl (cI, 8, .inl (fun _ => 0))), (q15, .inl (cI, 6, .inl (fun _ => 0))), (q17, .inl (cI, 6, .inl (fun _ => 0))), (q19, .inl (cI, 6, .inl (fun _ => 0))), (q21, .inl (cI, 6, .inl (fun _ => 0))), (q23, .inl (cI, 8, .inl (fun _ => 0))), (q25, .inl (cI, 24, .inl (fun _ => 0))), (q27, .inl (cI, 6, .inl (fun _ => 0))), (q29, .inl (cI, 400, .inl (fun _ => 0))), (q31, .inl (cI, 3, .inl (fun _ => 0))), (q33, .inl (cI, 1233, .inl (fun _ => 0))), (q35, .inl (cI, 192, .inl (fun _ => 0))), (q37, .inl (cI, 192, .inl (fun _ => 0))), (q39, .inl (cI, 3, .inl (fun _ => 0))), (q41, .inl (cI, 64, .inl (fun _ => 0))), (q43, .inl (cI, 64, .inl (fun _ => 0)))] := ⟨hP, hD⟩
  replace hP := hPD.1
  replace hD := hPD.2
  clear hPD
  refine lv_iinc (v := 6) (lv' := [(1, .int 6), (0, .ref h0)]) hx hb dX8_init_209 hl (k := 0) rfl (by decide) (by decide) rfl (fun ls hl => ?_)
  refine lv_goto (tgt := 195) hx hb dX8_init_212 (by decide) ?_
  refine lv_iload_n hx hb dX8_init_195 rfl (lv_at hl 0 rfl) ?_
  refine lv_bipush (v := 6) hx hb dX8_init_196 (by decide) ?_
  refine lv_icmp_ge (tgt := 215) hx hb dX8_init_198 (by decide) (fun _ => ?_) (fun c9 => absurd (by decide) c9)
  refine lv_iconst (v := 0) hx hb dX8_init_215 (by decide) ?_
  refine lv_istore_n (lv' := [(1, .int 0), (0, .ref h0)]) hx hb dX8_init_216 rfl hl (by decide) rfl (fun ls hl => ?_)
  refine lv_iload_n hx hb dX8_init_217 rfl (lv_at hl 0 rfl) ?_
  refine lv_iconst (v := 4) hx hb dX8_init_218 (by decide) ?_
  refine lv_icmp_ge (tgt := 236) hx hb dX8_init_219 (by decide) (fun c9 => absurd c9 (by decide)) (fun _ => ?_)
  refine lv_aload_n hx hb dX8_init_222 rfl (lv_at hl 1 rfl) ?_
  refine va_get (D := D) (ci := 8) (v := .ref q9) (C := RX8) (T := TX8) (N := 37) hx hb htk inW8 hown hK hP 0 rfl rfl 8 (by decide) (htk _ kfX8_26) (fun _ h9 => h9) rfl dX8_init_223 ?_
  refine lv_iload_n hx hb dX8_init_226 rfl (lv_at hl 0 rfl) ?_
  refine lv_bipush (v := (-9)) hx hb dX8_init_227 (by decide) ?_
  refine va_iast (D := D) (n := 4) (f := fun _ => 0) (i := 0) (x := (-9)) hx hb hK hP hD hS 5 0 rfl rfl (kw_in (by decide) (by decide)) dX8_init_229 (fun H locs hP hD hS => ?_)
  have hPD : kc_PD D A H [(h0, .inr (8, [.int 0, .ref q1, .int 0, .long 0, .long 1, .ref q3, .ref q5, .ref q7, .ref q9, .ref q11, .int 0, .int 1, .ref q13, .ref q15, .ref q17, .ref q19, .ref q21, .int 0, .int 0, .int 0, .ref q23, .ref q25, .int 0, .int 0, .int 0, .int 0, .ref q27, .int 0, .ref q29, .ref q31, .ref q33, .ref q35, .ref q37, .ref q39, .ref q41, .ref q43, .long 0])), (q1, .inl (cI, 6, .inl (fun _ => 0))), (q3, .inl (cI, 6, .inl (upd (upd (upd (upd (upd (upd (fun _ => 0) 0 (-9)) 1 (-9)) 2 (-9)) 3 (-9)) 4 (-9)) 5 (-9)))), (q5, .inl (cI, 240, .inl (fun _ => 0))), (q7, .inl (cI, 40, .inl (fun _ => 0))), (q9, .inl (cI, 4, .inl (upd (fun _ => 0) 0 (-9)))), (q11, .inl (cI, 240, .inl (fun _ => 0))), (q13, .inl (cI, 8, .inl (fun _ => 0))), (q15, .inl (cI, 6, .inl (fun _ => 0))), (q17, .inl (cI, 6, .inl (fun _ => 0))), (q19, .inl (cI, 6, .inl (fun _ => 0))), (q21, .inl (cI, 6, .inl (fun _ => 0))), (q23, .inl (cI, 8, .inl (fun _ => 0))), (q25, .inl (cI, 24, .inl (fun _ => 0))), (q27, .inl (cI, 6, .inl (fun _ => 0))), (q29, .inl (cI, 400, .inl (fun _ => 0))), (q31, .inl (cI, 3, .inl (fun _ => 0))), (q33, .inl (cI, 1233, .inl (fun _ => 0))), (q35, .inl (cI, 192, .inl (fun _ => 0))), (q37, .inl (cI, 192, .inl (fun _ => 0))), (q39, .inl (cI, 3, .inl (fun _ => 0))), (q41, .inl (cI, 64, .inl (fun _ => 0))), (q43, .inl (cI, 64, .inl (fun _ => 0)))] := ⟨hP, hD⟩
  replace hP := hPD.1
  replace hD := hPD.2
  clear hPD
  refine lv_iinc (v := 1) (lv' := [(1, .int 1), (0, .ref h0)]) hx hb dX8_init_230 hl (k := 0) rfl (by decide) (by decide) rfl (fun ls hl => ?_)
  refine lv_goto (tgt := 217) hx hb dX8_init_233 (by decide) ?_
  refine lv_iload_n hx hb dX8_init_217 rfl (lv_at hl 0 rfl) ?_
  refine lv_iconst (v := 4) hx hb dX8_init_218 (by decide) ?_
  refine lv_icmp_ge (tgt := 236) hx hb dX8_init_219 (by decide) (fun c9 => absurd c9 (by decide)) (fun _ => ?_)
  refine lv_aload_n hx hb dX8_init_222 rfl (lv_at hl 1 rfl) ?_
  refine va_get (D := D) (ci := 8) (v := .ref q9) (C := RX8) (T := TX8) (N := 37) hx hb htk inW8 hown hK hP 0 rfl rfl 8 (by decide) (htk _ kfX8_26) (fun _ h9 => h9) rfl dX8_init_223 ?_
  refine lv_iload_n hx hb dX8_init_226 rfl (lv_at hl 0 rfl) ?_
  refine lv_bipush (v := (-9)) hx hb dX8_init_227 (by decide) ?_
  refine va_iast (D := D) (n := 4) (f := upd (fun _ => 0) 0 (-9)) (i := 1) (x := (-9)) hx hb hK hP hD hS 5 0 rfl rfl (kw_in (by decide) (by decide)) dX8_init_229 (fun H locs hP hD hS => ?_)
  have hPD : kc_PD D A H [(h0, .inr (8, [.int 0, .ref q1, .int 0, .long 0, .long 1, .ref q3, .ref q5, .ref q7, .ref q9, .ref q11, .int 0, .int 1, .ref q13, .ref q15, .ref q17, .ref q19, .ref q21, .int 0, .int 0, .int 0, .ref q23, .ref q25, .int 0, .int 0, .int 0, .int 0, .ref q27, .int 0, .ref q29, .ref q31, .ref q33, .ref q35, .ref q37, .ref q39, .ref q41, .ref q43, .long 0])), (q1, .inl (cI, 6, .inl (fun _ => 0))), (q3, .inl (cI, 6, .inl (upd (upd (upd (upd (upd (upd (fun _ => 0) 0 (-9)) 1 (-9)) 2 (-9)) 3 (-9)) 4 (-9)) 5 (-9)))), (q5, .inl (cI, 240, .inl (fun _ => 0))), (q7, .inl (cI, 40, .inl (fun _ => 0))), (q9, .inl (cI, 4, .inl (upd (upd (fun _ => 0) 0 (-9)) 1 (-9)))), (q11, .inl (cI, 240, .inl (fun _ => 0))), (q13, .inl (cI, 8, .inl (fun _ => 0))), (q15, .inl (cI, 6, .inl (fun _ => 0))), (q17, .inl (cI, 6, .inl (fun _ => 0))), (q19, .inl (cI, 6, .inl (fun _ => 0))), (q21, .inl (cI, 6, .inl (fun _ => 0))), (q23, .inl (cI, 8, .inl (fun _ => 0))), (q25, .inl (cI, 24, .inl (fun _ => 0))), (q27, .inl (cI, 6, .inl (fun _ => 0))), (q29, .inl (cI, 400, .inl (fun _ => 0))), (q31, .inl (cI, 3, .inl (fun _ => 0))), (q33, .inl (cI, 1233, .inl (fun _ => 0))), (q35, .inl (cI, 192, .inl (fun _ => 0))), (q37, .inl (cI, 192, .inl (fun _ => 0))), (q39, .inl (cI, 3, .inl (fun _ => 0))), (q41, .inl (cI, 64, .inl (fun _ => 0))), (q43, .inl (cI, 64, .inl (fun _ => 0)))] := ⟨hP, hD⟩
  replace hP := hPD.1
  replace hD := hPD.2
  clear hPD
  refine lv_iinc (v := 2) (lv' := [(1, .int 2), (0, .ref h0)]) hx hb dX8_init_230 hl (k := 0) rfl (by decide) (by decide) rfl (fun ls hl => ?_)
  refine lv_goto (tgt := 217) hx hb dX8_init_233 (by decide) ?_
  refine lv_iload_n hx hb dX8_init_217 rfl (lv_at hl 0 rfl) ?_
  refine lv_iconst (v := 4) hx hb dX8_init_218 (by decide) ?_
  refine lv_icmp_ge (tgt := 236) hx hb dX8_init_219 (by decide) (fun c9 => absurd c9 (by decide)) (fun _ => ?_)
  refine lv_aload_n hx hb dX8_init_222 rfl (lv_at hl 1 rfl) ?_
  refine va_get (D := D) (ci := 8) (v := .ref q9) (C := RX8) (T := TX8) (N := 37) hx hb htk inW8 hown hK hP 0 rfl rfl 8 (by decide) (htk _ kfX8_26) (fun _ h9 => h9) rfl dX8_init_223 ?_
  refine lv_iload_n hx hb dX8_init_226 rfl (lv_at hl 0 rfl) ?_
  refine lv_bipush (v := (-9)) hx hb dX8_init_227 (by decide) ?_
  refine va_iast (D := D) (n := 4) (f := upd (upd (fun _ => 0) 0 (-9)) 1 (-9)) (i := 2) (x := (-9)) hx hb hK hP hD hS 5 0 rfl rfl (kw_in (by decide) (by decide)) dX8_init_229 (fun H locs hP hD hS => ?_)
  have hPD : kc_PD D A H [(h0, .inr (8, [.int 0, .ref q1, .int 0, .long 0, .long 1, .ref q3, .ref q5, .ref q7, .ref q9, .ref q11, .int 0, .int 1, .ref q13, .ref q15, .ref q17, .ref q19, .ref q21, .int 0, .int 0, .int 0, .ref q23, .ref q25, .int 0, .int 0, .int 0, .int 0, .ref q27, .int 0, .ref q29, .ref q31, .ref q33, .ref q35, .ref q37, .ref q39, .ref q41, .ref q43, .long 0])), (q1, .inl (cI, 6, .inl (fun _ => 0))), (q3, .inl (cI, 6, .inl (upd (upd (upd (upd (upd (upd (fun _ => 0) 0 (-9)) 1 (-9)) 2 (-9)) 3 (-9)) 4 (-9)) 5 (-9)))), (q5, .inl (cI, 240, .inl (fun _ => 0))), (q7, .inl (cI, 40, .inl (fun _ => 0))), (q9, .inl (cI, 4, .inl (upd (upd (upd (fun _ => 0) 0 (-9)) 1 (-9)) 2 (-9)))), (q11, .inl (cI, 240, .inl (fun _ => 0))), (q13, .inl (cI, 8, .inl (fun _ => 0))), (q15, .inl (cI, 6, .inl (fun _ => 0))), (q17, .inl (cI, 6, .inl (fun _ => 0))), (q19, .inl (cI, 6, .inl (fun _ => 0))), (q21, .inl (cI, 6, .inl (fun _ => 0))), (q23, .inl (cI, 8, .inl (fun _ => 0))), (q25, .inl (cI, 24, .inl (fun _ => 0))), (q27, .inl (cI, 6, .inl (fun _ => 0))), (q29, .inl (cI, 400, .inl (fun _ => 0))), (q31, .inl (cI, 3, .inl (fun _ => 0))), (q33, .inl (cI, 1233, .inl (fun _ => 0))), (q35, .inl (cI, 192, .inl (fun _ => 0))), (q37, .inl (cI, 192, .inl (fun _ => 0))), (q39, .inl (cI, 3, .inl (fun _ => 0))), (q41, .inl (cI, 64, .inl (fun _ => 0))), (q43, .inl (cI, 64, .inl (fun _ => 0)))] := ⟨hP, hD⟩
  replace hP := hPD.1
  replace hD := hPD.2
  clear hPD
  refine lv_iinc (v := 3) (lv' := [(1, .int 3), (0, .ref h0)]) hx hb dX8_init_230 hl (k := 0) rfl (by decide) (by decide) rfl (fun ls hl => ?_)
  refine lv_goto (tgt := 217) hx hb dX8_init_233 (by decide) ?_
  refine lv_iload_n hx hb dX8_init_217 rfl (lv_at hl 0 rfl) ?_
  refine lv_iconst (v := 4) hx hb dX8_init_218 (by decide) ?_
  refine lv_icmp_ge (tgt := 236) hx hb dX8_init_219 (by decide) (fun c9 => absurd c9 (by decide)) (fun _ => ?_)
  refine lv_aload_n hx hb dX8_init_222 rfl (lv_at hl 1 rfl) ?_
  refine va_get (D := D) (ci := 8) (v := .ref q9) (C := RX8) (T := TX8) (N := 37) hx hb htk inW8 hown hK hP 0 rfl rfl 8 (by decide) (htk _ kfX8_26) (fun _ h9 => h9) rfl dX8_init_223 ?_
  refine lv_iload_n hx hb dX8_init_226 rfl (lv_at hl 0 rfl) ?_
  refine lv_bipush (v := (-9)) hx hb dX8_init_227 (by decide) ?_
  refine va_iast (D := D) (n := 4) (f := upd (upd (upd (fun _ => 0) 0 (-9)) 1 (-9)) 2 (-9)) (i := 3) (x := (-9)) hx hb hK hP hD hS 5 0 rfl rfl (kw_in (by decide) (by decide)) dX8_init_229 (fun H locs hP hD hS => ?_)
  have hPD : kc_PD D A H [(h0, .inr (8, [.int 0, .ref q1, .int 0, .long 0, .long 1, .ref q3, .ref q5, .ref q7, .ref q9, .ref q11, .int 0, .int 1, .ref q13, .ref q15, .ref q17, .ref q19, .ref q21, .int 0, .int 0, .int 0, .ref q23, .ref q25, .int 0, .int 0, .int 0, .int 0, .ref q27, .int 0, .ref q29, .ref q31, .ref q33, .ref q35, .ref q37, .ref q39, .ref q41, .ref q43, .long 0])), (q1, .inl (cI, 6, .inl (fun _ => 0))), (q3, .inl (cI, 6, .inl (upd (upd (upd (upd (upd (upd (fun _ => 0) 0 (-9)) 1 (-9)) 2 (-9)) 3 (-9)) 4 (-9)) 5 (-9)))), (q5, .inl (cI, 240, .inl (fun _ => 0))), (q7, .inl (cI, 40, .inl (fun _ => 0))), (q9, .inl (cI, 4, .inl (upd (upd (upd (upd (fun _ => 0) 0 (-9)) 1 (-9)) 2 (-9)) 3 (-9)))), (q11, .inl (cI, 240, .inl (fun _ => 0))), (q13, .inl (cI, 8, .inl (fun _ => 0))), (q15, .inl (cI, 6, .inl (fun _ => 0))), (q17, .inl (cI, 6, .inl (fun _ => 0))), (q19, .inl (cI, 6, .inl (fun _ => 0))), (q21, .inl (cI, 6, .inl (fun _ => 0))), (q23, .inl (cI, 8, .inl (fun _ => 0))), (q25, .inl (cI, 24, .inl (fun _ => 0))), (q27, .inl (cI, 6, .inl (fun _ => 0))), (q29, .inl (cI, 400, .inl (fun _ => 0))), (q31, .inl (cI, 3, .inl (fun _ => 0))), (q33, .inl (cI, 1233, .inl (fun _ => 0))), (q35, .inl (cI, 192, .inl (fun _ => 0))), (q37, .inl (cI, 192, .inl (fun _ => 0))), (q39, .inl (cI, 3, .inl (fun _ => 0))), (q41, .inl (cI, 64, .inl (fun _ => 0))), (q43, .inl (cI, 64, .inl (fun _ => 0)))] := ⟨hP, hD⟩
  replace hP := hPD.1
  replace hD := hPD.2
  clear hPD
  refine lv_iinc (v := 4) (lv' := [(1, .int 4), (0, .ref h0)]) hx hb dX8_init_230 hl (k := 0) rfl (by decide) (by decide) rfl (fun ls hl => ?_)
  refine lv_goto (tgt := 217) hx hb dX8_init_233 (by decide) ?_
  refine lv_iload_n hx hb dX8_init_217 rfl (lv_at hl 0 rfl) ?_
  refine lv_iconst (v := 4) hx hb dX8_init_218 (by decide) ?_
  refine lv_icmp_ge (tgt := 236) hx hb dX8_init_219 (by decide) (fun _ => ?_) (fun c9 => absurd (by decide) c9)
  have hP := hP.sub (ws' := [(h0, .inr (8, [.int 0, .ref q1, .int 0, .long 0, .long 1, .ref q3, .ref q5, .ref q7, .ref q9, .ref q11, .int 0, .int 1, .ref q13, .ref q15, .ref q17, .ref q19, .ref q21, .int 0, .int 0, .int 0, .ref q23, .ref q25, .int 0, .int 0, .int 0, .int 0, .ref q27, .int 0, .ref q29, .ref q31, .ref q33, .ref q35, .ref q37, .ref q39, .ref q41, .ref q43, .long 0])), (q1, .inl (cI, 6, .inl (fun _ => 0))), (q3, .inl (cI, 6, .inl (upd (upd (upd (upd (upd (upd (fun _ => 0) 0 (-9)) 1 (-9)) 2 (-9)) 3 (-9)) 4 (-9)) 5 (-9)))), (q5, .inl (cI, 240, .inl (fun _ => 0))), (q7, .inl (cI, 40, .inl (fun _ => 0))), (q9, .inl (cI, 4, .inl (upd (upd (upd (upd (fun _ => 0) 0 (-9)) 1 (-9)) 2 (-9)) 3 (-9)))), (q11, .inl (cI, 240, .inl (fun _ => 0))), (q13, .inl (cI, 8, .inl (fun _ => 0))), (q15, .inl (cI, 6, .inl (fun _ => 0))), (q17, .inl (cI, 6, .inl (fun _ => 0))), (q19, .inl (cI, 6, .inl (fun _ => 0))), (q21, .inl (cI, 6, .inl (fun _ => 0))), (q23, .inl (cI, 8, .inl (fun _ => 0))), (q25, .inl (cI, 24, .inl (fun _ => 0))), (q27, .inl (cI, 6, .inl (fun _ => 0))), (q29, .inl (cI, 400, .inl (fun _ => 0))), (q31, .inl (cI, 3, .inl (fun _ => 0))), (q33, .inl (cI, 1233, .inl (fun _ => 0))), (q35, .inl (cI, 192, .inl (fun _ => 0))), (q37, .inl (cI, 192, .inl (fun _ => 0))), (q39, .inl (cI, 3, .inl (fun _ => 0))), (q41, .inl (cI, 64, .inl (fun _ => 0))), (q43, .inl (cI, 64, .inl (fun _ => 0)))]) [0, 1, 2, 3, 4, 5, 6, 7, 8, 9, 10, 11, 12, 13, 14, 15, 16, 17, 18, 19, 20, 21, 22] rfl
  have hD := hD.sub (ws' := [(h0, .inr (8, [.int 0, .ref q1, .int 0, .long 0, .long 1, .ref q3, .ref q5, .ref q7, .ref q9, .ref q11, .int 0, .int 1, .ref q13, .ref q15, .ref q17, .ref q19, .ref q21, .int 0, .int 0, .int 0, .ref q23, .ref q25, .int 0, .int 0, .int 0, .int 0, .ref q27, .int 0, .ref q29, .ref q31, .ref q33, .ref q35, .ref q37, .ref q39, .ref q41, .ref q43, .long 0])), (q1, .inl (cI, 6, .inl (fun _ => 0))), (q3, .inl (cI, 6, .inl (upd (upd (upd (upd (upd (upd (fun _ => 0) 0 (-9)) 1 (-9)) 2 (-9)) 3 (-9)) 4 (-9)) 5 (-9)))), (q5, .inl (cI, 240, .inl (fun _ => 0))), (q7, .inl (cI, 40, .inl (fun _ => 0))), (q9, .inl (cI, 4, .inl (upd (upd (upd (upd (fun _ => 0) 0 (-9)) 1 (-9)) 2 (-9)) 3 (-9)))), (q11, .inl (cI, 240, .inl (fun _ => 0))), (q13, .inl (cI, 8, .inl (fun _ => 0))), (q15, .inl (cI, 6, .inl (fun _ => 0))), (q17, .inl (cI, 6, .inl (fun _ => 0))), (q19, .inl (cI, 6, .inl (fun _ => 0))), (q21, .inl (cI, 6, .inl (fun _ => 0))), (q23, .inl (cI, 8, .inl (fun _ => 0))), (q25, .inl (cI, 24, .inl (fun _ => 0))), (q27, .inl (cI, 6, .inl (fun _ => 0))), (q29, .inl (cI, 400, .inl (fun _ => 0))), (q31, .inl (cI, 3, .inl (fun _ => 0))), (q33, .inl (cI, 1233, .inl (fun _ => 0))), (q35, .inl (cI, 192, .inl (fun _ => 0))), (q37, .inl (cI, 192, .inl (fun _ => 0))), (q39, .inl (cI, 3, .inl (fun _ => 0))), (q41, .inl (cI, 64, .inl (fun _ => 0))), (q43, .inl (cI, 64, .inl (fun _ => 0)))]) [0, 1, 2, 3, 4, 5, 6, 7, 8, 9, 10, 11, 12, 13, 14, 15, 16, 17, 18, 19, 20, 21, 22] (by decide) rfl
  obtain ⟨r, er⟩ : ∃ r : Nat → Nat, r = fun k => ([h0, q1, q3, q5, q7, q9, q11, q13, q15, q17, q19, q21, q23, q25, q27, q29, q31, q33, q35, q37, q39, q41, q43] : List Nat).getD k 0 := ⟨_, rfl⟩
  have eW : kw_W (r, D, kc_cl cI cII cC) KM kc_SM = [(h0, .inr (8, [.int 0, .ref q1, .int 0, .long 0, .long 1, .ref q3, .ref q5, .ref q7, .ref q9, .ref q11, .int 0, .int 1, .ref q13, .ref q15, .ref q17, .ref q19, .ref q21, .int 0, .int 0, .int 0, .ref q23, .ref q25, .int 0, .int 0, .int 0, .int 0, .ref q27, .int 0, .ref q29, .ref q31, .ref q33, .ref q35, .ref q37, .ref q39, .ref q41, .ref q43, .long 0])), (q1, .inl (cI, 6, .inl (fun _ => 0))), (q3, .inl (cI, 6, .inl (upd (upd (upd (upd (upd (upd (fun _ => 0) 0 (-9)) 1 (-9)) 2 (-9)) 3 (-9)) 4 (-9)) 5 (-9)))), (q5, .inl (cI, 240, .inl (fun _ => 0))), (q7, .inl (cI, 40, .inl (fun _ => 0))), (q9, .inl (cI, 4, .inl (upd (upd (upd (upd (fun _ => 0) 0 (-9)) 1 (-9)) 2 (-9)) 3 (-9)))), (q11, .inl (cI, 240, .inl (fun _ => 0))), (q13, .inl (cI, 8, .inl (fun _ => 0))), (q15, .inl (cI, 6, .inl (fun _ => 0))), (q17, .inl (cI, 6, .inl (fun _ => 0))), (q19, .inl (cI, 6, .inl (fun _ => 0))), (q21, .inl (cI, 6, .inl (fun _ => 0))), (q23, .inl (cI, 8, .inl (fun _ => 0))), (q25, .inl (cI, 24, .inl (fun _ => 0))), (q27, .inl (cI, 6, .inl (fun _ => 0))), (q29, .inl (cI, 400, .inl (fun _ => 0))), (q31, .inl (cI, 3, .inl (fun _ => 0))), (q33, .inl (cI, 1233, .inl (fun _ => 0))), (q35, .inl (cI, 192, .inl (fun _ => 0))), (q37, .inl (cI, 192, .inl (fun _ => 0))), (q39, .inl (cI, 3, .inl (fun _ => 0))), (q41, .inl (cI, 64, .inl (fun _ => 0))), (q43, .inl (cI, 64, .inl (fun _ => 0)))] := by
    rw [kc_Weq, er]
    rfl
  rw [← eW] at hP hD
  exact W.vret hx hb hr (fun t ht hW => ⟨⟨(), rfl, trivial, r, by rw [er]; rfl, by rw [ht]; exact hP, hD⟩, hS.F ht⟩) hS.2.2 dX8_init_236
end
section
set_option maxHeartbeats 4000000 in
set_option maxRecDepth 100000 in
theorem k_X3_init_6_40 (l : Launch) (D : va_G) (cI cII cC : ClassId) (h0 sz : Nat) : Met l yX3_init (.code yX3_init cX3_init 3 none :: kw_ws) (kc_rm 2 8 252) (kc_Pre D cI cII cC sz [.ref h0, .int 6, .int 40] [(h0, .inr (3, [.int 0, .null, .null]))]) (va_Qv (fun _ : Unit => True) (fun _ t => ∃ q1 q4 q5 q6 q7 q8 q9 q10 : Nat, va_P D vwCl [(h0, .inr (3, [.int 40, .ref q1, .ref q10])), (q1, .inl (cII, 6, .inr (.inr (.inr (.inr (fun j : Nat => ([q4, q5, q6, q7, q8, q9] : List Nat)[j]?)))))), (q4, .inl (cI, 40, .inl (fun _ => 0))), (q5, .inl (cI, 40, .inl (fun _ => 0))), (q6, .inl (cI, 40, .inl (fun _ => 0))), (q7, .inl (cI, 40, .inl (fun _ => 0))), (q8, .inl (cI, 40, .inl (fun _ => 0))), (q9, .inl (cI, 40, .inl (fun _ => 0))), (q10, .inl (cI, 6, .inl (fun j => if j < 6 then (-1) else 0)))] t.heap ∧ va_D (va_A [(h0, .inr (3, [.int 0, .null, .null]))] sz) [(h0, .inr (3, [.int 40, .ref q1, .ref q10])), (q1, .inl (cII, 6, .inr (.inr (.inr (.inr (fun j : Nat => ([q4, q5, q6, q7, q8, q9] : List Nat)[j]?)))))), (q4, .inl (cI, 40, .inl (fun _ => 0))), (q5, .inl (cI, 40, .inl (fun _ => 0))), (q6, .inl (cI, 40, .inl (fun _ => 0))), (q7, .inl (cI, 40, .inl (fun _ => 0))), (q8, .inl (cI, 40, .inl (fun _ => 0))), (q9, .inl (cI, 40, .inl (fun _ => 0))), (q10, .inl (cI, 6, .inl (fun j => if j < 6 then (-1) else 0)))]) (va_A [(h0, .inr (3, [.int 0, .null, .null]))] sz)) 8 252 (va_A [(h0, .inr (3, [.int 0, .null, .null]))] sz) := by
  refine Met.ofW (cc := cX3_init) (maxL := 3) (ret := none) (by decide) rfl ?_
  intro p e s m args below meth c s₁ B hml hv
  obtain ⟨rfl, hsz, hP, hK, hD0, hSt⟩ := hv
  have hx := B.exec
  have hb := B.bytes
  have hr := B.returns
  have hts := atoms_spec (ws := .code yX3_init cX3_init 3 none :: kw_ws) B.pre
  have htk := fun w (hw : w ∈ kw_ws) => hts w (List.mem_cons_of_mem _ hw)
  have hown : s.vm.findClass RX3 = some m.cls := findClass_of_methodNamed B.named
  have hlocks := B.notSynchronized
  have hin : meth.name = "<init>" := (name_of_methodNamed B.named B.method).1
  subst hsz
  have hD := hD0.self (sz := s.heap.size)
  generalize hAe : va_A [(h0, .inr (3, [.int 0, .null, .null]))] s.heap.size = A at hD ⊢
  have hA : ∀ q : Nat, s.heap.size ≤ q → A q := fun q h => by rw [← hAe]; exact Or.inr h
  have hS : va_S A s.heap s.heap [] := va_S.rf
  have hP : va_P D vwCl [(h0, .inr (3, [.int 0, .null, .null]))] s.heap := hP
  have hl := lv_entry ([.ref h0, .int 6, .int 40]) (n := 3) (Nat.le_of_ble_eq_true rfl)
  rw [lg_entry_eq]
  generalize (lg_sl ([.ref h0, .int 6, .int 40]) ++ List.replicate (3 - (lg_sl ([.ref h0, .int 6, .int 40])).length) Slot.unset).toArray = ls at hl ⊢
  have hl : lv_has ls 3 [(0, .ref h0), (1, .int 6), (2, .int 40)] := hl
  refine lv_aload_n hx hb dX3_init_0 rfl (lv_at hl 0 rfl) ?_
  refine W.objInit hx hb hown (htk _ kmX3_3) (htk _ wIObj) (htk _ wCObj) rfl (by rw [hml]; exact hl.1) rfl dX3_init_1 (Nat.le_of_ble_eq_true rfl) (Nat.le_of_ble_eq_true rfl) ?_
  refine W.eq (g2 := F0 m 4 ls []) rfl ?_
  refine lv_aload_n hx hb dX3_init_4 rfl (lv_at hl 0 rfl) ?_
  refine lv_iload_n hx hb dX3_init_5 rfl (lv_at hl 2 rfl) ?_
  refine va_putF (D := D) (ci := 3) (v := .int 40) (ty := .int) (C := RX3) (T := TX3) (N := 3) hx hb htk inW3 tyX3 tyX3_ok nmX3 hown hK hP hD hS 0 rfl rfl 0 (by decide) (htk _ kfX3_9) (fun _ h9 => h9) rfl hin rfl (by decide +kernel) rfl rfl (Nat.le_of_ble_eq_true rfl) dX3_init_6 (fun H locs hP hD hS => ?_)
  have hPD : kc_PD D A H [(h0, .inr (3, [.int 40, .null, .null]))] := ⟨hP, hD⟩
  replace hP := hPD.1
  replace hD := hPD.2
  clear hPD
  refine lv_aload_n hx hb dX3_init_9 rfl (lv_at hl 0 rfl) ?_
  refine lv_iload_n hx hb dX3_init_10 rfl (lv_at hl 1 rfl) ?_
  refine lv_iload_n hx hb dX3_init_11 rfl (lv_at hl 2 rfl) ?_
  refine kc_mna (cy := cI) hx hb hown (htk _ kcX3_15) hSt.2.2 (htk _ wArr) (hK.2 0 _ rfl).2 hK hP hD hS hA 6 40 (by decide) (by decide) rfl rfl (by decide) (by decide) (by decide) (Nat.le_of_ble_eq_true rfl) (Nat.le_of_ble_eq_true rfl) dX3_init_12 (fun q1 r2 c3 H hK1 hP hD hS => ?_)
  obtain rfl : cII = c3 := kc_same2 hK1 1 3 rfl rfl
  have hPD : kc_PD D A H [(h0, .inr (3, [.int 40, .null, .null])), (q1, .inl (cII, 6, .inr (.inr (.inr (.inr (fun i => if i < 6 then some (r2 i) else none)))))), (r2 0, .inl (cI, 40, .inl (fun _ => 0))), (r2 1, .inl (cI, 40, .inl (fun _ => 0))), (r2 2, .inl (cI, 40, .inl (fun _ => 0))), (r2 3, .inl (cI, 40, .inl (fun _ => 0))), (r2 4, .inl (cI, 40, .inl (fun _ => 0))), (r2 5, .inl (cI, 40, .inl (fun _ => 0)))] := ⟨hP, hD⟩
  replace hP := hPD.1
  replace hD := hPD.2
  clear hPD
  have hf : (fun i => if i < 6 then some (r2 i) else none) = (fun j : Nat => ([r2 0, r2 1, r2 2, r2 3, r2 4, r2 5] : List Nat)[j]?) := by
    funext j
    match j with
    | 0 => rfl
    | 1 => rfl
    | 2 => rfl
    | 3 => rfl
    | 4 => rfl
    | 5 => rfl
    | j + 6 => simp
  rw [hf] at hP hD
  clear hf
  generalize r2 0 = q4 at hP hD
  generalize r2 1 = q5 at hP hD
  generalize r2 2 = q6 at hP hD
  generalize r2 3 = q7 at hP hD
  generalize r2 4 = q8 at hP hD
  generalize r2 5 = q9 at hP hD
  have hPD : kc_PD D A H [(h0, .inr (3, [.int 40, .null, .null])), (q1, .inl (cII, 6, .inr (.inr (.inr (.inr (fun j : Nat => ([q4, q5, q6, q7, q8, q9] : List Nat)[j]?)))))), (q4, .inl (cI, 40, .inl (fun _ => 0))), (q5, .inl (cI, 40, .inl (fun _ => 0))), (q6, .inl (cI, 40, .inl (fun _ => 0))), (q7, .inl (cI, 40, .inl (fun _ => 0))), (q8, .inl (cI, 40, .inl (fun _ => 0))), (q9, .inl (cI, 40, .inl (fun _ => 0)))] := ⟨hP, hD⟩
  replace hP := hPD.1
  replace hD := hPD.2
  clear hPD
  refine W.widen (k := 7) (n := 246) (Nat.le_of_ble_eq_true rfl) (Nat.le_of_ble_eq_true rfl) ?_
  refine va_putF (D := D) (ci := 3) (v := .ref q1) (ty := .array (.array .int)) (C := RX3) (T := TX3) (N := 3) hx hb htk inW3 tyX3 tyX3_ok nmX3 hown hK hP hD hS 0 rfl rfl 1 (by decide) (htk _ kfX3_17) (fun _ h9 => h9) rfl hin rfl (by decide +kernel) rfl rfl (Nat.le_of_ble_eq_true rfl) dX3_init_16 (fun H locs hP hD hS => ?_)
  have hPD : kc_PD D A H [(h0, .inr (3, [.int 40, .ref q1, .null])), (q1, .inl (cII, 6, .inr (.inr (.inr (.inr (fun j : Nat => ([q4, q5, q6, q7, q8, q9] : List Nat)[j]?)))))), (q4, .inl (cI, 40, .inl (fun _ => 0))), (q5, .inl (cI, 40, .inl (fun _ => 0))), (q6, .inl (cI, 40, .inl (fun _ => 0))), (q7, .inl (cI, 40, .inl (fun _ => 0))), (q8, .inl (cI, 40, .inl (fun _ => 0))), (q9, .inl (cI, 40, .inl (fun _ => 0)))] := ⟨hP, hD⟩
  replace hP := hPD.1
  replace hD := hPD.2
  clear hPD
  refine lv_aload_n hx hb dX3_init_19 rfl (lv_at hl 0 rfl) ?_
  refine lv_iload_n hx hb dX3_init_20 rfl (lv_at hl 1 rfl) ?_
  refine va_newa (atype := .int) (ty := .int) (a0 := (6, .inl (fun _ => 0))) (N' := 6) hx hb (htk _ wArr) rfl hK hP hD hS hA (fun _ => rfl) (by decide) rfl (by decide) (Nat.le_of_ble_eq_true rfl) (Nat.le_of_ble_eq_true rfl) dX3_init_21 (fun q10 c11 H hK1 hP hD hS => ?_)
  obtain rfl : cI = c11 := kc_same hK1 0 3 rfl rfl
  have hPD : kc_PD D A H [(h0, .inr (3, [.int 40, .ref q1, .null])), (q1, .inl (cII, 6, .inr (.inr (.inr (.inr (fun j : Nat => ([q4, q5, q6, q7, q8, q9] : List Nat)[j]?)))))), (q4, .inl (cI, 40, .inl (fun _ => 0))), (q5, .inl (cI, 40, .inl (fun _ => 0))), (q6, .inl (cI, 40, .inl (fun _ => 0))), (q7, .inl (cI, 40, .inl (fun _ => 0))), (q8, .inl (cI, 40, .inl (fun _ => 0))), (q9, .inl (cI, 40, .inl (fun _ => 0))), (q10, .inl (cI, 6, .inl (fun _ => 0)))] := ⟨hP, hD⟩
  replace hP := hPD.1
  replace hD := hPD.2
  clear hPD
  refine W.widen (k := 8) (n := 252) (Nat.le_of_ble_eq_true rfl) (Nat.le_of_ble_eq_true rfl) ?_
  refine va_putF (D := D) (ci := 3) (v := .ref q10) (ty := .array .int) (C := RX3) (T := TX3) (N := 3) hx hb htk inW3 tyX3 tyX3_ok nmX3 hown hK hP hD hS 0 rfl rfl 2 (by decide) (htk _ kfX3_20) (fun _ h9 => h9) rfl hin rfl (by decide +kernel) rfl rfl (Nat.le_of_ble_eq_true rfl) dX3_init_23 (fun H locs hP hD hS => ?_)
  have hPD : kc_PD D A H [(h0, .inr (3, [.int 40, .ref q1, .ref q10])), (q1, .inl (cII, 6, .inr (.inr (.inr (.inr (fun j : Nat => ([q4, q5, q6, q7, q8, q9] : List Nat)[j]?)))))), (q4, .inl (cI, 40, .inl (fun _ => 0))), (q5, .inl (cI, 40, .inl (fun _ => 0))), (q6, .inl (cI, 40, .inl (fun _ => 0))), (q7, .inl (cI, 40, .inl (fun _ => 0))), (q8, .inl (cI, 40, .inl (fun _ => 0))), (q9, .inl (cI, 40, .inl (fun _ => 0))), (q10, .inl (cI, 6, .inl (fun _ => 0)))] := ⟨hP, hD⟩
  replace hP := hPD.1
  replace hD := hPD.2
  clear hPD
  refine lv_aload_n hx hb dX3_init_26 rfl (lv_at hl 0 rfl) ?_
  refine va_get (D := D) (ci := 3) (v := .ref q10) (C := RX3) (T := TX3) (N := 3) hx hb htk inW3 hown hK hP 0 rfl rfl 2 (by decide) (htk _ kfX3_20) (fun _ h9 => h9) rfl dX3_init_27 ?_
  refine lv_iconst (v := (-1)) hx hb dX3_init_30 (by decide) ?_
  have hPc := hP.sub (ws' := [(q10, .inl (cI, 6, .inl (fun _ => 0)))]) [8] rfl
  have hDc := hD.sub (ws' := [(q10, .inl (cI, 6, .inl (fun _ => 0)))]) [8] (by decide) rfl
  have hFc := va_free (wc := [(q10, .inl (cI, 6, .inl (fun _ => 0)))]) hD hS hA [8] rfl
  refine va_callv (va_runS (As := [.ref q10, .int (-1)]) (rest := []) ⟨hx, hb, hml, hown, htk⟩ (k_fill l D cI cII cC q10 H.size 6 (by decide) (fun _ => 0) (-1)) (va_cwS 2 htk (kw_goodS lsX3_24) rfl rfl rfl (by decide +kernel) ⟨Nat.le_of_ble_eq_true rfl, Nat.le_of_ble_eq_true rfl⟩) ⟨kc_blind, fun U hU hW => ⟨rfl, by rw [hU], by rw [hU]; exact hPc, va_K.moved hW.alike hK, hDc.weaken (fun _ _ _ _ => trivial), hSt.next hW⟩⟩ rfl rfl hl.1 rfl (lv_room (Nat.le_of_ble_eq_true rfl)) dX3_init_31 ⟨Nat.le_of_ble_eq_true rfl, Nat.le_of_ble_eq_true rfl⟩) hS (fun q _ h => hFc q h) hFc (fun u t H1 locs ht hvm hw hB hz1 hk1 hS => ?_)
  obtain ⟨hP1, hD1⟩ := hB
  rw [ht] at hP1
  rw [hw] at hP1 hD1
  obtain ⟨hP, hD⟩ := va_join (wr := [(h0, .inr (3, [.int 40, .ref q1, .ref q10])), (q1, .inl (cII, 6, .inr (.inr (.inr (.inr (fun j : Nat => ([q4, q5, q6, q7, q8, q9] : List Nat)[j]?)))))), (q4, .inl (cI, 40, .inl (fun _ => 0))), (q5, .inl (cI, 40, .inl (fun _ => 0))), (q6, .inl (cI, 40, .inl (fun _ => 0))), (q7, .inl (cI, 40, .inl (fun _ => 0))), (q8, .inl (cI, 40, .inl (fun _ => 0))), (q9, .inl (cI, 40, .inl (fun _ => 0)))]) (w1 := [(q10, .inl (cI, 6, .inl (fun j => if j < 6 then (-1) else 0)))]) hP hD [8] [0, 1, 2, 3, 4, 5, 6, 7] rfl rfl (by decide) (by decide) hk1 hFc hP1 hD1
  generalize H1 = H at hP hS ⊢
  have hPD : kc_PD D A H [(h0, .inr (3, [.int 40, .ref q1, .ref q10])), (q1, .inl (cII, 6, .inr (.inr (.inr (.inr (fun j : Nat => ([q4, q5, q6, q7, q8, q9] : List Nat)[j]?)))))), (q4, .inl (cI, 40, .inl (fun _ => 0))), (q5, .inl (cI, 40, .inl (fun _ => 0))), (q6, .inl (cI, 40, .inl (fun _ => 0))), (q7, .inl (cI, 40, .inl (fun _ => 0))), (q8, .inl (cI, 40, .inl (fun _ => 0))), (q9, .inl (cI, 40, .inl (fun _ => 0))), (q10, .inl (cI, 6, .inl (fun j => if j < 6 then (-1) else 0)))] := ⟨hP, hD⟩
  replace hP := hPD.1
  replace hD := hPD.2
  clear hPD
  refine W.widen (k := 8) (n := 252) (Nat.le_of_ble_eq_true rfl) (Nat.le_of_ble_eq_true rfl) ?_
  exact W.vret hx hb hr (fun t ht hW => ⟨⟨(), rfl, trivial, q1, q4, q5, q6, q7, q8, q9, q10, by rw [ht]; exact hP, hD⟩, hS.F ht⟩) hS.2.2 dX3_init_34
set_option maxHeartbeats 4000000 in
set_option maxRecDepth 100000 in
theorem k_X3_init_4_60 (l : Launch) (D : va_G) (cI cII cC : ClassId) (h0 sz : Nat) : Met l yX3_init (.code yX3_init cX3_init 3 none :: kw_ws) (kc_rm 2 6 248) (kc_Pre D cI cII cC sz [.ref h0, .int 4, .int 60] [(h0, .inr (3, [.int 0, .null, .null]))]) (va_Qv (fun _ : Unit => True) (fun _ t => ∃ q1 q4 q5 q6 q7 q8 : Nat, va_P D vwCl [(h0, .inr (3, [.int 60, .ref q1, .ref q8])), (q1, .inl (cII, 4, .inr (.inr (.inr (.inr (fun j : Nat => ([q4, q5, q6, q7] : List Nat)[j]?)))))), (q4, .inl (cI, 60, .inl (fun _ => 0))), (q5, .inl (cI, 60, .inl (fun _ => 0))), (q6, .inl (cI, 60, .inl (fun _ => 0))), (q7, .inl (cI, 60, .inl (fun _ => 0))), (q8, .inl (cI, 4, .inl (fun j => if j < 4 then (-1) else 0)))] t.heap ∧ va_D (va_A [(h0, .inr (3, [.int 0, .null, .null]))] sz) [(h0, .inr (3, [.int 60, .ref q1, .ref q8])), (q1, .inl (cII, 4, .inr (.inr (.inr (.inr (fun j : Nat => ([q4, q5, q6, q7] : List Nat)[j]?)))))), (q4, .inl (cI, 60, .inl (fun _ => 0))), (q5, .inl (cI, 60, .inl (fun _ => 0))), (q6, .inl (cI, 60, .inl (fun _ => 0))), (q7, .inl (cI, 60, .inl (fun _ => 0))), (q8, .inl (cI, 4, .inl (fun j => if j < 4 then (-1) else 0)))]) (va_A [(h0, .inr (3, [.int 0, .null, .null]))] sz)) 6 248 (va_A [(h0, .inr (3, [.int 0, .null, .null]))] sz) := by
  refine Met.ofW (cc := cX3_init) (maxL := 3) (ret := none) (by decide) rfl ?_
  intro p e s m args below meth c s₁ B hml hv
  obtain ⟨rfl, hsz, hP, hK, hD0, hSt⟩ := hv
  have hx := B.exec
  have hb := B.bytes
  have hr := B.returns
  have hts := atoms_spec (ws := .code yX3_init cX3_init 3 none :: kw_ws) B.pre
  have htk := fun w (hw : w ∈ kw_ws) => hts w (List.mem_cons_of_mem _ hw)
  have hown : s.vm.findClass RX3 = some m.cls := findClass_of_methodNamed B.named
  have hlocks := B.notSynchronized
  have hin : meth.name = "<init>" := (name_of_methodNamed B.named B.method).1
  subst hsz
  have hD := hD0.self (sz := s.heap.size)
  generalize hAe : va_A [(h0, .inr (3, [.int 0, .null, .null]))] s.heap.size = A at hD ⊢
  have hA : ∀ q : Nat, s.heap.size ≤ q → A q := fun q h => by rw [← hAe]; exact Or.inr h
  have hS : va_S A s.heap s.heap [] := va_S.rf
  have hP : va_P D vwCl [(h0, .inr (3, [.int 0, .null, .null]))] s.heap := hP
  have hl := lv_entry ([.ref h0, .int 4, .int 60]) (n := 3) (Nat.le_of_ble_eq_true rfl)
  rw [lg_entry_eq]
  generalize (lg_sl ([.ref h0, .int 4, .int 60]) ++ List.replicate (3 - (lg_sl ([.ref h0, .int 4, .int 60])).length) Slot.unset).toArray = ls at hl ⊢
  have hl : lv_has ls 3 [(0, .ref h0), (1, .int 4), (2, .int 60)] := hl
  refine lv_aload_n hx hb dX3_init_0 rfl (lv_at hl 0 rfl) ?_
  refine W.objInit hx hb hown (htk _ kmX3_3) (htk _ wIObj) (htk _ wCObj) rfl (by rw [hml]; exact hl.1) rfl dX3_init_1 (Nat.le_of_ble_eq_true rfl) (Nat.le_of_ble_eq_true rfl) ?_
  refine W.eq (g2 := F0 m 4 ls []) rfl ?_
  refine lv_aload_n hx hb dX3_init_4 rfl (lv_at hl 0 rfl) ?_
  refine lv_iload_n hx hb dX3_init_5 rfl (lv_at hl 2 rfl) ?_
  refine va_putF (D := D) (ci := 3) (v := .int 60) (ty := .int) (C := RX3) (T := TX3) (N := 3) hx hb htk inW3 tyX3 tyX3_ok nmX3 hown hK hP hD hS 0 rfl rfl 0 (by decide) (htk _ kfX3_9) (fun _ h9 => h9) rfl hin rfl (by decide +kernel) rfl rfl (Nat.le_of_ble_eq_true rfl) dX3_init_6 (fun H locs hP hD hS => ?_)
  have hPD : kc_PD D A H [(h0, .inr (3, [.int 60, .null, .null]))] := ⟨hP, hD⟩
  replace hP := hPD.1
  replace hD := hPD.2
  clear hPD
  refine lv_aload_n hx hb dX3_init_9 rfl (lv_at hl 0 rfl) ?_
  refine lv_iload_n hx hb dX3_init_10 rfl (lv_at hl 1 rfl) ?_
  refine lv_iload_n hx hb dX3_init_11 rfl (lv_at hl 2 rfl) ?_
  refine kc_mna (cy := cI) hx hb hown (htk _ kcX3_15) hSt.2.2 (htk _ wArr) (hK.2 0 _ rfl).2 hK hP hD hS hA 4 60 (by decide) (by decide) rfl rfl (by decide) (by decide) (by decide) (Nat.le_of_ble_eq_true rfl) (Nat.le_of_ble_eq_true rfl) dX3_init_12 (fun q1 r2 c3 H hK1 hP hD hS => ?_)
  obtain rfl : cII = c3 := kc_same2 hK1 1 3 rfl rfl
  have hPD : kc_PD D A H [(h0, .inr (3, [.int 60, .null, .null])), (q1, .inl (cII, 4, .inr (.inr (.inr (.inr (fun i => if i < 4 then some (r2 i) else none)))))), (r2 0, .inl (cI, 60, .inl (fun _ => 0))), (r2 1, .inl (cI, 60, .inl (fun _ => 0))), (r2 2, .inl (cI, 60, .inl (fun _ => 0))), (r2 3, .inl (cI, 60, .inl (fun _ => 0)))] := ⟨hP, hD⟩
  replace hP := hPD.1
  replace hD := hPD.2
  clear hPD
  have hf : (fun i => if i < 4 then some (r2 i) else none) = (fun j : Nat => ([r2 0, r2 1, r2 2, r2 3] : List Nat)[j]?) := by
    funext j
    match j with
    | 0 => rfl
    | 1 => rfl
    | 2 => rfl
    | 3 => rfl
    | j + 4 => simp
  rw [hf] at hP hD
  clear hf
  generalize r2 0 = q4 at hP hD
  generalize r2 1 = q5 at hP hD
  generalize r2 2 = q6 at hP hD
  generalize r2 3 = q7 at hP hD
  have hPD : kc_PD D A H [(h0, .inr (3, [.int 60, .null, .null])), (q1, .inl (cII, 4, .inr (.inr (.inr (.inr (fun j : Nat => ([q4, q5, q6, q7] : List Nat)[j]?)))))), (q4, .inl (cI, 60, .inl (fun _ => 0))), (q5, .inl (cI, 60, .inl (fun _ => 0))), (q6, .inl (cI, 60, .inl (fun _ => 0))), (q7, .inl (cI, 60, .inl (fun _ => 0)))] := ⟨hP, hD⟩
  replace hP := hPD.1
  replace hD := hPD.2
  clear hPD
  refine W.widen (k := 5) (n := 244) (Nat.le_of_ble_eq_true rfl) (Nat.le_of_ble_eq_true rfl) ?_
  refine va_putF (D := D) (ci := 3) (v := .ref q1) (ty := .array (.array .int)) (C := RX3) (T := TX3) (N := 3) hx hb htk inW3 tyX3 tyX3_ok nmX3 hown hK hP hD hS 0 rfl rfl 1 (by decide) (htk _ kfX3_17) (fun _ h9 => h9) rfl hin rfl (by decide +kernel) rfl rfl (Nat.le_of_ble_eq_true rfl) dX3_init_16 (fun H locs hP hD hS => ?_)
  have hPD : kc_PD D A H [(h0, .inr (3, [.int 60, .ref q1, .null])), (q1, .inl (cII, 4, .inr (.inr (.inr (.inr (fun j : Nat => ([q4, q5, q6, q7] : List Nat)[j]?)))))), (q4, .inl (cI, 60, .inl (fun _ => 0))), (q5, .inl (cI, 60, .inl (fun _ => 0))), (q6, .inl (cI, 60, .inl (fun _ => 0))), (q7, .inl (cI, 60, .inl (fun _ => 0)))] := ⟨hP, hD⟩
  replace hP := hPD.1
  replace hD := hPD.2
  clear hPD
  refine lv_aload_n hx hb dX3_init_19 rfl (lv_at hl 0 rfl) ?_
  refine lv_iload_n hx hb dX3_init_20 rfl (lv_at hl 1 rfl) ?_
  refine va_newa (atype := .int) (ty := .int) (a0 := (4, .inl (fun _ => 0))) (N' := 4) hx hb (htk _ wArr) rfl hK hP hD hS hA (fun _ => rfl) (by decide) rfl (by decide) (Nat.le_of_ble_eq_true rfl) (Nat.le_of_ble_eq_true rfl) dX3_init_21 (fun q8 c9 H hK1 hP hD hS => ?_)
  obtain rfl : cI = c9 := kc_same hK1 0 3 rfl rfl
  have hPD : kc_PD D A H [(h0, .inr (3, [.int 60, .ref q1, .null])), (q1, .inl (cII, 4, .inr (.inr (.inr (.inr (fun j : Nat => ([q4, q5, q6, q7] : List Nat)[j]?)))))), (q4, .inl (cI, 60, .inl (fun _ => 0))), (q5, .inl (cI, 60, .inl (fun _ => 0))), (q6, .inl (cI, 60, .inl (fun _ => 0))), (q7, .inl (cI, 60, .inl (fun _ => 0))), (q8, .inl (cI, 4, .inl (fun _ => 0)))] := ⟨hP, hD⟩
  replace hP := hPD.1
  replace hD := hPD.2
  clear hPD
  refine W.widen (k := 6) (n := 248) (Nat.le_of_ble_eq_true rfl) (Nat.le_of_ble_eq_true rfl) ?_
  refine va_putF (D := D) (ci := 3) (v := .ref q8) (ty := .array .int) (C := RX3) (T := TX3) (N := 3) hx hb htk inW3 tyX3 tyX3_ok nmX3 hown hK hP hD hS 0 rfl rfl 2 (by decide) (htk _ kfX3_20) (fun _ h9 => h9) rfl hin rfl (by decide +kernel) rfl rfl (Nat.le_of_ble_eq_true rfl) dX3_init_23 (fun H locs hP hD hS => ?_)
  have hPD : kc_PD D A H [(h0, .inr (3, [.int 60, .ref q1, .ref q8])), (q1, .inl (cII, 4, .inr (.inr (.inr (.inr (fun j : Nat => ([q4, q5, q6, q7] : List Nat)[j]?)))))), (q4, .inl (cI, 60, .inl (fun _ => 0))), (q5, .inl (cI, 60, .inl (fun _ => 0))), (q6, .inl (cI, 60, .inl (fun _ => 0))), (q7, .inl (cI, 60, .inl (fun _ => 0))), (q8, .inl (cI, 4, .inl (fun _ => 0)))] := ⟨hP, hD⟩
  replace hP := hPD.1
  replace hD := hPD.2
  clear hPD
  refine lv_aload_n hx hb dX3_init_26 rfl (lv_at hl 0 rfl) ?_
  refine va_get (D := D) (ci := 3) (v := .ref q8) (C := RX3) (T := TX3) (N := 3) hx hb htk inW3 hown hK hP 0 rfl rfl 2 (by decide) (htk _ kfX3_20) (fun _ h9 => h9) rfl dX3_init_27 ?_
  refine lv_iconst (v := (-1)) hx hb dX3_init_30 (by decide) ?_
  have hPc := hP.sub (ws' := [(q8, .inl (cI, 4, .inl (fun _ => 0)))]) [6] rfl
  have hDc := hD.sub (ws' := [(q8, .inl (cI, 4, .inl (fun _ => 0)))]) [6] (by decide) rfl
  have hFc := va_free (wc := [(q8, .inl (cI, 4, .inl (fun _ => 0)))]) hD hS hA [6] rfl
  refine va_callv (va_runS (As := [.ref q8, .int (-1)]) (rest := []) ⟨hx, hb, hml, hown, htk⟩ (k_fill l D cI cII cC q8 H.size 4 (by decide) (fun _ => 0) (-1)) (va_cwS 2 htk (kw_goodS lsX3_24) rfl rfl rfl (by decide +kernel) ⟨Nat.le_of_ble_eq_true rfl, Nat.le_of_ble_eq_true rfl⟩) ⟨kc_blind, fun U hU hW => ⟨rfl, by rw [hU], by rw [hU]; exact hPc, va_K.moved hW.alike hK, hDc.weaken (fun _ _ _ _ => trivial), hSt.next hW⟩⟩ rfl rfl hl.1 rfl (lv_room (Nat.le_of_ble_eq_true rfl)) dX3_init_31 ⟨Nat.le_of_ble_eq_true rfl, Nat.le_of_ble_eq_true rfl⟩) hS (fun q _ h => hFc q h) hFc (fun u t H1 locs ht hvm hw hB hz1 hk1 hS => ?_)
  obtain ⟨hP1, hD1⟩ := hB
  rw [ht] at hP1
  rw [hw] at hP1 hD1
  obtain ⟨hP, hD⟩ := va_join (wr := [(h0, .inr (3, [.int 60, .ref q1, .ref q8])), (q1, .inl (cII, 4, .inr (.inr (.inr (.inr (fun j : Nat => ([q4, q5, q6, q7] : List Nat)[j]?)))))), (q4, .inl (cI, 60, .inl (fun _ => 0))), (q5, .inl (cI, 60, .inl (fun _ => 0))), (q6, .inl (cI, 60, .inl (fun _ => 0))), (q7, .inl (cI, 60, .inl (fun _ => 0)))]) (w1 := [(q8, .inl (cI, 4, .inl (fun j => if j < 4 then (-1) else 0)))]) hP hD [6] [0, 1, 2, 3, 4, 5] rfl rfl (by decide) (by decide) hk1 hFc hP1 hD1
  generalize H1 = H at hP hS ⊢
  have hPD : kc_PD D A H [(h0, .inr (3, [.int 60, .ref q1, .ref q8])), (q1, .inl (cII, 4, .inr (.inr (.inr (.inr (fun j : Nat => ([q4, q5, q6, q7] : List Nat)[j]?)))))), (q4, .inl (cI, 60, .inl (fun _ => 0))), (q5, .inl (cI, 60, .inl (fun _ => 0))), (q6, .inl (cI, 60, .inl (fun _ => 0))), (q7, .inl (cI, 60, .inl (fun _ => 0))), (q8, .inl (cI, 4, .inl (fun j => if j < 4 then (-1) else 0)))] := ⟨hP, hD⟩
  replace hP := hPD.1
  replace hD := hPD.2
  clear hPD
  refine W.widen (k := 6) (n := 248) (Nat.le_of_ble_eq_true rfl) (Nat.le_of_ble_eq_true rfl) ?_
  exact W.vret hx hb hr (fun t ht hW => ⟨⟨(), rfl, trivial, q1, q4, q5, q6, q7, q8, by rw [ht]; exact hP, hD⟩, hS.F ht⟩) hS.2.2 dX3_init_34
set_option maxHeartbeats 4000000 in
set_option maxRecDepth 100000 in
theorem k_X3_init_3_40 (l : Launch) (D : va_G) (cI cII cC : ClassId) (h0 sz : Nat) : Met l yX3_init (.code yX3_init cX3_init 3 none :: kw_ws) (kc_rm 2 5 126) (kc_Pre D cI cII cC sz [.ref h0, .int 3, .int 40] [(h0, .inr (3, [.int 0, .null, .null]))]) (va_Qv (fun _ : Unit => True) (fun _ t => ∃ q1 q4 q5 q6 q7 : Nat, va_P D vwCl [(h0, .inr (3, [.int 40, .ref q1, .ref q7])), (q1, .inl (cII, 3, .inr (.inr (.inr (.inr (fun j : Nat => ([q4, q5, q6] : List Nat)[j]?)))))), (q4, .inl (cI, 40, .inl (fun _ => 0))), (q5, .inl (cI, 40, .inl (fun _ => 0))), (q6, .inl (cI, 40, .inl (fun _ => 0))), (q7, .inl (cI, 3, .inl (fun j => if j < 3 then (-1) else 0)))] t.heap ∧ va_D (va_A [(h0, .inr (3, [.int 0, .null, .null]))] sz) [(h0, .inr (3, [.int 40, .ref q1, .ref q7])), (q1, .inl (cII, 3, .inr (.inr (.inr (.inr (fun j : Nat => ([q4, q5, q6] : List Nat)[j]?)))))), (q4, .inl (cI, 40, .inl (fun _ => 0))), (q5, .inl (cI, 40, .inl (fun _ => 0))), (q6, .inl (cI, 40, .inl (fun _ => 0))), (q7, .inl (cI, 3, .inl (fun j => if j < 3 then (-1) else 0)))]) (va_A [(h0, .inr (3, [.int 0, .null, .null]))] sz)) 5 126 (va_A [(h0, .inr (3, [.int 0, .null, .null]))] sz) := by
  refine Met.ofW (cc := cX3_init) (maxL := 3) (ret := none) (by decide) rfl ?_
  intro p e s m args below meth c s₁ B hml hv
  obtain ⟨rfl, hsz, hP, hK, hD0, hSt⟩ := hv
  have hx := B.exec
  have hb := B.bytes
  have hr := B.returns
  have hts := atoms_spec (ws := .code yX3_init cX3_init 3 none :: kw_ws) B.pre
  have htk := fun w (hw : w ∈ kw_ws) => hts w (List.mem_cons_of_mem _ hw)
  have hown : s.vm.findClass RX3 = some m.cls := findClass_of_methodNamed B.named
  have hlocks := B.notSynchronized
  have hin : meth.name = "<init>" := (name_of_methodNamed B.named B.method).1
  subst hsz
  have hD := hD0.self (sz := s.heap.size)
  generalize hAe : va_A [(h0, .inr (3, [.int 0, .null, .null]))] s.heap.size = A at hD ⊢
  have hA : ∀ q : Nat, s.heap.size ≤ q → A q := fun q h => by rw [← hAe]; exact Or.inr h
  have hS : va_S A s.heap s.heap [] := va_S.rf
  have hP : va_P D vwCl [(h0, .inr (3, [.int 0, .null, .null]))] s.heap := hP
  have hl := lv_entry ([.ref h0, .int 3, .int 40]) (n := 3) (Nat.le_of_ble_eq_true rfl)
  rw [lg_entry_eq]
  generalize (lg_sl ([.ref h0, .int 3, .int 40]) ++ List.replicate (3 - (lg_sl ([.ref h0, .int 3, .int 40])).length) Slot.unset).toArray = ls at hl ⊢
  have hl : lv_has ls 3 [(0, .ref h0), (1, .int 3), (2, .int 40)] := hl
  refine lv_aload_n hx hb dX3_init_0 rfl (lv_at hl 0 rfl) ?_
  refine W.objInit hx hb hown (htk _ kmX3_3) (htk _ wIObj) (htk _ wCObj) rfl (by rw [hml]; exact hl.1) rfl dX3_init_1 (Nat.le_of_ble_eq_true rfl) (Nat.le_of_ble_eq_true rfl) ?_
  refine W.eq (g2 := F0 m 4 ls []) rfl ?_
  refine lv_aload_n hx hb dX3_init_4 rfl (lv_at hl 0 rfl) ?_
  refine lv_iload_n hx hb dX3_init_5 rfl (lv_at hl 2 rfl) ?_
  refine va_putF (D := D) (ci := 3) (v := .int 40) (ty := .int) (C := RX3) (T := TX3) (N := 3) hx hb htk inW3 tyX3 tyX3_ok nmX3 hown hK hP hD hS 0 rfl rfl 0 (by decide) (htk _ kfX3_9) (fun _ h9 => h9) rfl hin rfl (by decide +kernel) rfl rfl (Nat.le_of_ble_eq_true rfl) dX3_init_6 (fun H locs hP hD hS => ?_)
  have hPD : kc_PD D A H [(h0, .inr (3, [.int 40, .null, .null]))] := ⟨hP, hD⟩
  replace hP := hPD.1
  replace hD := hPD.2
  clear hPD
  refine lv_aload_n hx hb dX3_init_9 rfl (lv_at hl 0 rfl) ?_
  refine lv_iload_n hx hb dX3_init_10 rfl (lv_at hl 1 rfl) ?_
  refine lv_iload_n hx hb dX3_init_11 rfl (lv_at hl 2 rfl) ?_
  refine kc_mna (cy := cI) hx hb hown (htk _ kcX3_15) hSt.2.2 (htk _ wArr) (hK.2 0 _ rfl).2 hK hP hD hS hA 3 40 (by decide) (by decide) rfl rfl (by decide) (by decide) (by decide) (Nat.le_of_ble_eq_true rfl) (Nat.le_of_ble_eq_true rfl) dX3_init_12 (fun q1 r2 c3 H hK1 hP hD hS => ?_)
  obtain rfl : cII = c3 := kc_same2 hK1 1 3 rfl rfl
  have hPD : kc_PD D A H [(h0, .inr (3, [.int 40, .null, .null])), (q1, .inl (cII, 3, .inr (.inr (.inr (.inr (fun i => if i < 3 then some (r2 i) else none)))))), (r2 0, .inl (cI, 40, .inl (fun _ => 0))), (r2 1, .inl (cI, 40, .inl (fun _ => 0))), (r2 2, .inl (cI, 40, .inl (fun _ => 0)))] := ⟨hP, hD⟩
  replace hP := hPD.1
  replace hD := hPD.2
  clear hPD
  have hf : (fun i => if i < 3 then some (r2 i) else none) = (fun j : Nat => ([r2 0, r2 1, r2 2] : List Nat)[j]?) := by
    funext j
    match j with
    | 0 => rfl
    | 1 => rfl
    | 2 => rfl
    | j + 3 => simp
  rw [hf] at hP hD
  clear hf
  generalize r2 0 = q4 at hP hD
  generalize r2 1 = q5 at hP hD
  generalize r2 2 = q6 at hP hD
  have hPD : kc_PD D A H [(h0, .inr (3, [.int 40, .null, .null])), (q1, .inl (cII, 3, .inr (.inr (.inr (.inr (fun j : Nat => ([q4, q5, q6] : List Nat)[j]?)))))), (q4, .inl (cI, 40, .inl (fun _ => 0))), (q5, .inl (cI, 40, .inl (fun _ => 0))), (q6, .inl (cI, 40, .inl (fun _ => 0)))] := ⟨hP, hD⟩
  replace hP := hPD.1
  replace hD := hPD.2
  clear hPD
  refine W.widen (k := 4) (n := 123) (Nat.le_of_ble_eq_true rfl) (Nat.le_of_ble_eq_true rfl) ?_
  refine va_putF (D := D) (ci := 3) (v := .ref q1) (ty := .array (.array .int)) (C := RX3) (T := TX3) (N := 3) hx hb htk inW3 tyX3 tyX3_ok nmX3 hown hK hP hD hS 0 rfl rfl 1 (by decide) (htk _ kfX3_17) (fun _ h9 => h9) rfl hin rfl (by decide +kernel) rfl rfl (Nat.le_of_ble_eq_true rfl) dX3_init_16 (fun H locs hP hD hS => ?_)
  have hPD : kc_PD D A H [(h0, .inr (3, [.int 40, .ref q1, .null])), (q1, .inl (cII, 3, .inr (.inr (.inr (.inr (fun j : Nat => ([q4, q5, q6] : List Nat)[j]?)))))), (q4, .inl (cI, 40, .inl (fun _ => 0))), (q5, .inl (cI, 40, .inl (fun _ => 0))), (q6, .inl (cI, 40, .inl (fun _ => 0)))] := ⟨hP, hD⟩
  replace hP := hPD.1
  replace hD := hPD.2
  clear hPD
  refine lv_aload_n hx hb dX3_init_19 rfl (lv_at hl 0 rfl) ?_
  refine lv_iload_n hx hb dX3_init_20 rfl (lv_at hl 1 rfl) ?_
  refine va_newa (atype := .int) (ty := .int) (a0 := (3, .inl (fun _ => 0))) (N' := 3) hx hb (htk _ wArr) rfl hK hP hD hS hA (fun _ => rfl) (by decide) rfl (by decide) (Nat.le_of_ble_eq_true rfl) (Nat.le_of_ble_eq_true rfl) dX3_init_21 (fun q7 c8 H hK1 hP hD hS => ?_)
  obtain rfl : cI = c8 := kc_same hK1 0 3 rfl rfl
  have hPD : kc_PD D A H [(h0, .inr (3, [.int 40, .ref q1, .null])), (q1, .inl (cII, 3, .inr (.inr (.inr (.inr (fun j : Nat => ([q4, q5, q6] : List Nat)[j]?)))))), (q4, .inl (cI, 40, .inl (fun _ => 0))), (q5, .inl (cI, 40, .inl (fun _ => 0))), (q6, .inl (cI, 40, .inl (fun _ => 0))), (q7, .inl (cI, 3, .inl (fun _ => 0)))] := ⟨hP, hD⟩
  replace hP := hPD.1
  replace hD := hPD.2
  clear hPD
  refine W.widen (k := 5) (n := 126) (Nat.le_of_ble_eq_true rfl) (Nat.le_of_ble_eq_true rfl) ?_
  refine va_putF (D := D) (ci := 3) (v := .ref q7) (ty := .array .int) (C := RX3) (T := TX3) (N := 3) hx hb htk inW3 tyX3 tyX3_ok nmX3 hown hK hP hD hS 0 rfl rfl 2 (by decide) (htk _ kfX3_20) (fun _ h9 => h9) rfl hin rfl (by decide +kernel) rfl rfl (Nat.le_of_ble_eq_true rfl) dX3_init_23 (fun H locs hP hD hS => ?_)
  have hPD : kc_PD D A H [(h0, .inr (3, [.int 40, .ref q1, .ref q7])), (q1, .inl (cII, 3, .inr (.inr (.inr (.inr (fun j : Nat => ([q4, q5, q6] : List Nat)[j]?)))))), (q4, .inl (cI, 40, .inl (fun _ => 0))), (q5, .inl (cI, 40, .inl (fun _ => 0))), (q6, .inl (cI, 40, .inl (fun _ => 0))), (q7, .inl (cI, 3, .inl (fun _ => 0)))] := ⟨hP, hD⟩
  replace hP := hPD.1
  replace hD := hPD.2
  clear hPD
  refine lv_aload_n hx hb dX3_init_26 rfl (lv_at hl 0 rfl) ?_
  refine va_get (D := D) (ci := 3) (v := .ref q7) (C := RX3) (T := TX3) (N := 3) hx hb htk inW3 hown hK hP 0 rfl rfl 2 (by decide) (htk _ kfX3_20) (fun _ h9 => h9) rfl dX3_init_27 ?_
  refine lv_iconst (v := (-1)) hx hb dX3_init_30 (by decide) ?_
  have hPc := hP.sub (ws' := [(q7, .inl (cI, 3, .inl (fun _ => 0)))]) [5] rfl
  have hDc := hD.sub (ws' := [(q7, .inl (cI, 3, .inl (fun _ => 0)))]) [5] (by decide) rfl
  have hFc := va_free (wc := [(q7, .inl (cI, 3, .inl (fun _ => 0)))]) hD hS hA [5] rfl
  refine va_callv (va_runS (As := [.ref q7, .int (-1)]) (rest := []) ⟨hx, hb, hml, hown, htk⟩ (k_fill l D cI cII cC q7 H.size 3 (by decide) (fun _ => 0) (-1)) (va_cwS 2 htk (kw_goodS lsX3_24) rfl rfl rfl (by decide +kernel) ⟨Nat.le_of_ble_eq_true rfl, Nat.le_of_ble_eq_true rfl⟩) ⟨kc_blind, fun U hU hW => ⟨rfl, by rw [hU], by rw [hU]; exact hPc, va_K.moved hW.alike hK, hDc.weaken (fun _ _ _ _ => trivial), hSt.next hW⟩⟩ rfl rfl hl.1 rfl (lv_room (Nat.le_of_ble_eq_true rfl)) dX3_init_31 ⟨Nat.le_of_ble_eq_true rfl, Nat.le_of_ble_eq_true rfl⟩) hS (fun q _ h => hFc q h) hFc (fun u t H1 locs ht hvm hw hB hz1 hk1 hS => ?_)
  obtain ⟨hP1, hD1⟩ := hB
  rw [ht] at hP1
  rw [hw] at hP1 hD1
  obtain ⟨hP, hD⟩ := va_join (wr := [(h0, .inr (3, [.int 40, .ref q1, .ref q7])), (q1, .inl (cII, 3, .inr (.inr (.inr (.inr (fun j : Nat => ([q4, q5, q6] : List Nat)[j]?)))))), (q4, .inl (cI, 40, .inl (fun _ => 0))), (q5, .inl (cI, 40, .inl (fun _ => 0))), (q6, .inl (cI, 40, .inl (fun _ => 0)))]) (w1 := [(q7, .inl (cI, 3, .inl (fun j => if j < 3 then (-1) else 0)))]) hP hD [5] [0, 1, 2, 3, 4] rfl rfl (by decide) (by decide) hk1 hFc hP1 hD1
  generalize H1 = H at hP hS ⊢
  have hPD : kc_PD D A H [(h0, .inr (3, [.int 40, .ref q1, .ref q7])), (q1, .inl (cII, 3, .inr (.inr (.inr (.inr (fun j : Nat => ([q4, q5, q6] : List Nat)[j]?)))))), (q4, .inl (cI, 40, .inl (fun _ => 0))), (q5, .inl (cI, 40, .inl (fun _ => 0))), (q6, .inl (cI, 40, .inl (fun _ => 0))), (q7, .inl (cI, 3, .inl (fun j => if j < 3 then (-1) else 0)))] := ⟨hP, hD⟩
  replace hP := hPD.1
  replace hD := hPD.2
  clear hPD
  refine W.widen (k := 5) (n := 126) (Nat.le_of_ble_eq_true rfl) (Nat.le_of_ble_eq_true rfl) ?_
  exact W.vret hx hb hr (fun t ht hW => ⟨⟨(), rfl, trivial, q1, q4, q5, q6, q7, by rw [ht]; exact hP, hD⟩, hS.F ht⟩) hS.2.2 dX3_init_34
end
section
set_option maxHeartbeats 4000000 in
set_option maxRecDepth 100000 in
theorem k_X6_init (l : Launch) (D : va_G) (cI cII cC : ClassId) (h0 sz : Nat) : Met l yX6_init (.code yX6_init cX6_init 2 none :: kw_ws) (kc_rm 3 13 409) (kc_Pre D cI cII cC sz [.ref h0] [(h0, .inr (6, [.null, .int 0, .null, .null, .null, .int 0, .int 0, .int 0]))]) (va_Qv (fun _ : Unit => True) (fun _ t => ∃ q1 q3 q5 q7 q9 q10 q11 q12 q13 q14 q15 q16 q17 : Nat, va_P D vwCl [(h0, .inr (6, [.ref q1, .int 0, .ref q3, .ref q5, .ref q7, .int 0, .int 0, .int 0])), (q1, .inl (cI, 3, .inl (fun _ => 0))), (q3, .inl (cC, 3, .inr (.inr (.inr (.inr (va_up (va_up (va_up (fun _ => none) 0 (some q9)) 1 (some q12)) 2 (some q15))))))), (q5, .inl (cI, 4, .inl (fun _ => 0))), (q7, .inl (cI, 3, .inl (fun _ => 0))), (q9, .inr (0, [.ref q10, .ref q11, .int 0, .int 0])), (q10, .inl (cI, 64, .inl (fun _ => 0))), (q11, .inl (cI, 64, .inl (fun _ => 0))), (q12, .inr (0, [.ref q13, .ref q14, .int 0, .int 0])), (q13, .inl (cI, 64, .inl (fun _ => 0))), (q14, .inl (cI, 64, .inl (fun _ => 0))), (q15, .inr (0, [.ref q16, .ref q17, .int 0, .int 0])), (q16, .inl (cI, 64, .inl (fun _ => 0))), (q17, .inl (cI, 64, .inl (fun _ => 0)))] t.heap ∧ va_D (va_A [(h0, .inr (6, [.null, .int 0, .null, .null, .null, .int 0, .int 0, .int 0]))] sz) [(h0, .inr (6, [.ref q1, .int 0, .ref q3, .ref q5, .ref q7, .int 0, .int 0, .int 0])), (q1, .inl (cI, 3, .inl (fun _ => 0))), (q3, .inl (cC, 3, .inr (.inr (.inr (.inr (va_up (va_up (va_up (fun _ => none) 0 (some q9)) 1 (some q12)) 2 (some q15))))))), (q5, .inl (cI, 4, .inl (fun _ => 0))), (q7, .inl (cI, 3, .inl (fun _ => 0))), (q9, .inr (0, [.ref q10, .ref q11, .int 0, .int 0])), (q10, .inl (cI, 64, .inl (fun _ => 0))), (q11, .inl (cI, 64, .inl (fun _ => 0))), (q12, .inr (0, [.ref q13, .ref q14, .int 0, .int 0])), (q13, .inl (cI, 64, .inl (fun _ => 0))), (q14, .inl (cI, 64, .inl (fun _ => 0))), (q15, .inr (0, [.ref q16, .ref q17, .int 0, .int 0])), (q16, .inl (cI, 64, .inl (fun _ => 0))), (q17, .inl (cI, 64, .inl (fun _ => 0)))]) (va_A [(h0, .inr (6, [.null, .int 0, .null, .null, .null, .int 0, .int 0, .int 0]))] sz)) 13 409 (va_A [(h0, .inr (6, [.null, .int 0, .null, .null, .null, .int 0, .int 0, .int 0]))] sz) := by
  refine Met.ofW (cc := cX6_init) (maxL := 2) (ret := none) (by decide) rfl ?_
  intro p e s m args below meth c s₁ B hml hv
  obtain ⟨rfl, hsz, hP, hK, hD0, hSt⟩ := hv
  have hx := B.exec
  have hb := B.bytes
  have hr := B.returns
  have hts := atoms_spec (ws := .code yX6_init cX6_init 2 none :: kw_ws) B.pre
  have htk := fun w (hw : w ∈ kw_ws) => hts w (List.mem_cons_of_mem _ hw)
  have hown : s.vm.findClass RX6 = some m.cls := findClass_of_methodNamed B.named
  have hlocks := B.notSynchronized
  have hin : meth.name = "<init>" := (name_of_methodNamed B.named B.method).1
  subst hsz
  have hD := hD0.self (sz := s.heap.size)
  generalize hAe : va_A [(h0, .inr (6, [.null, .int 0, .null, .null, .null, .int 0, .int 0, .int 0]))] s.heap.size = A at hD ⊢
  have hA : ∀ q : Nat, s.heap.size ≤ q → A q := fun q h => by rw [← hAe]; exact Or.inr h
  have hS : va_S A s.heap s.heap [] := va_S.rf
  have hP : va_P D vwCl [(h0, .inr (6, [.null, .int 0, .null, .null, .null, .int 0, .int 0, .int 0]))] s.heap := hP
  have hl := lv_entry ([.ref h0]) (n := 2) (Nat.le_of_ble_eq_true rfl)
  rw [lg_entry_eq]
  generalize (lg_sl ([.ref h0]) ++ List.replicate (2 - (lg_sl ([.ref h0])).length) Slot.unset).toArray = ls at hl ⊢
  have hl : lv_has ls 2 [(0, .ref h0)] := hl
  refine lv_aload_n hx hb dX6_init_0 rfl (lv_at hl 0 rfl) ?_
  refine W.objInit hx hb hown (htk _ kmX6_3) (htk _ wIObj) (htk _ wCObj) rfl (by rw [hml]; exact hl.1) rfl dX6_init_1 (Nat.le_of_ble_eq_true rfl) (Nat.le_of_ble_eq_true rfl) ?_
  refine W.eq (g2 := F0 m 4 ls []) rfl ?_
  refine lv_aload_n hx hb dX6_init_4 rfl (lv_at hl 0 rfl) ?_
  refine lv_iconst (v := 3) hx hb dX6_init_5 (by decide) ?_
  refine va_newa (atype := .int) (ty := .int) (a0 := (3, .inl (fun _ => 0))) (N' := 3) hx hb (htk _ wArr) rfl hK hP hD hS hA (fun _ => rfl) (by decide) rfl (by decide) (Nat.le_of_ble_eq_true rfl) (Nat.le_of_ble_eq_true rfl) dX6_init_6 (fun q1 c2 H hK1 hP hD hS => ?_)
  obtain rfl : cI = c2 := kc_same hK1 0 3 rfl rfl
  have hPD : kc_PD D A H [(h0, .inr (6, [.null, .int 0, .null, .null, .null, .int 0, .int 0, .int 0])), (q1, .inl (cI, 3, .inl (fun _ => 0)))] := ⟨hP, hD⟩
  replace hP := hPD.1
  replace hD := hPD.2
  clear hPD
  refine W.widen (k := 1) (n := 3) (Nat.le_of_ble_eq_true rfl) (Nat.le_of_ble_eq_true rfl) ?_
  refine va_putF (D := D) (ci := 6) (v := .ref q1) (ty := .array .int) (C := RX6) (T := TX6) (N := 8) hx hb htk inW6 tyX6 tyX6_ok nmX6 hown hK hP hD hS 0 rfl rfl 0 (by decide) (htk _ kfX6_9) (fun _ h9 => h9) rfl hin rfl (by decide +kernel) rfl rfl (Nat.le_of_ble_eq_true rfl) dX6_init_8 (fun H locs hP hD hS => ?_)
  have hPD : kc_PD D A H [(h0, .inr (6, [.ref q1, .int 0, .null, .null, .null, .int 0, .int 0, .int 0])), (q1, .inl (cI, 3, .inl (fun _ => 0)))] := ⟨hP, hD⟩
  replace hP := hPD.1
  replace hD := hPD.2
  clear hPD
  refine lv_aload_n hx hb dX6_init_11 rfl (lv_at hl 0 rfl) ?_
  refine lv_iconst (v := 3) hx hb dX6_init_12 (by decide) ?_
  refine va_newq (C := RX0) (N' := 3) hx hb hown (htk _ kcX6_15) hSt.2.1 hK hP hD hS hA (by decide) rfl (by decide) (Nat.le_of_ble_eq_true rfl) (Nat.le_of_ble_eq_true rfl) dX6_init_13 (fun q3 c4 H hK1 hP hD hS => ?_)
  obtain rfl : cC = c4 := kc_same3 (C := RX0) hK1 2 3 rfl rfl
  have hPD : kc_PD D A H [(h0, .inr (6, [.ref q1, .int 0, .null, .null, .null, .int 0, .int 0, .int 0])), (q1, .inl (cI, 3, .inl (fun _ => 0))), (q3, .inl (cC, 3, .inr (.inr (.inr (.inr (fun _ => none))))))] := ⟨hP, hD⟩
  replace hP := hPD.1
  replace hD := hPD.2
  clear hPD
  refine W.widen (k := 2) (n := 6) (Nat.le_of_ble_eq_true rfl) (Nat.le_of_ble_eq_true rfl) ?_
  refine va_putF (D := D) (ci := 6) (v := .ref q3) (ty := .array (.object "WashSails$Chart")) (C := RX6) (T := TX6) (N := 8) hx hb htk inW6 tyX6 tyX6_ok nmX6 hown hK hP hD hS 0 rfl rfl 2 (by decide) (htk _ kfX6_17) (fun _ h9 => h9) rfl hin rfl (by decide +kernel) rfl rfl (Nat.le_of_ble_eq_true rfl) dX6_init_16 (fun H locs hP hD hS => ?_)
  have hPD : kc_PD D A H [(h0, .inr (6, [.ref q1, .int 0, .ref q3, .null, .null, .int 0, .int 0, .int 0])), (q1, .inl (cI, 3, .inl (fun _ => 0))), (q3, .inl (cC, 3, .inr (.inr (.inr (.inr (fun _ => none))))))] := ⟨hP, hD⟩
  replace hP := hPD.1
  replace hD := hPD.2
  clear hPD
  refine lv_aload_n hx hb dX6_init_19 rfl (lv_at hl 0 rfl) ?_
  refine lv_iconst (v := 4) hx hb dX6_init_20 (by decide) ?_
  refine va_newa (atype := .int) (ty := .int) (a0 := (4, .inl (fun _ => 0))) (N' := 4) hx hb (htk _ wArr) rfl hK hP hD hS hA (fun _ => rfl) (by decide) rfl (by decide) (Nat.le_of_ble_eq_true rfl) (Nat.le_of_ble_eq_true rfl) dX6_init_21 (fun q5 c6 H hK1 hP hD hS => ?_)
  obtain rfl : cI = c6 := kc_same hK1 0 3 rfl rfl
  have hPD : kc_PD D A H [(h0, .inr (6, [.ref q1, .int 0, .ref q3, .null, .null, .int 0, .int 0, .int 0])), (q1, .inl (cI, 3, .inl (fun _ => 0))), (q3, .inl (cC, 3, .inr (.inr (.inr (.inr (fun _ => none)))))), (q5, .inl (cI, 4, .inl (fun _ => 0)))] := ⟨hP, hD⟩
  replace hP := hPD.1
  replace hD := hPD.2
  clear hPD
  refine W.widen (k := 3) (n := 10) (Nat.le_of_ble_eq_true rfl) (Nat.le_of_ble_eq_true rfl) ?_
  refine va_putF (D := D) (ci := 6) (v := .ref q5) (ty := .array .int) (C := RX6) (T := TX6) (N := 8) hx hb htk inW6 tyX6 tyX6_ok nmX6 hown hK hP hD hS 0 rfl rfl 3 (by decide) (htk _ kfX6_21) (fun _ h9 => h9) rfl hin rfl (by decide +kernel) rfl rfl (Nat.le_of_ble_eq_true rfl) dX6_init_23 (fun H locs hP hD hS => ?_)
  have hPD : kc_PD D A H [(h0, .inr (6, [.ref q1, .int 0, .ref q3, .ref q5, .null, .int 0, .int 0, .int 0])), (q1, .inl (cI, 3, .inl (fun _ => 0))), (q3, .inl (cC, 3, .inr (.inr (.inr (.inr (fun _ => none)))))), (q5, .inl (cI, 4, .inl (fun _ => 0)))] := ⟨hP, hD⟩
  replace hP := hPD.1
  replace hD := hPD.2
  clear hPD
  refine lv_aload_n hx hb dX6_init_26 rfl (lv_at hl 0 rfl) ?_
  refine lv_iconst (v := 3) hx hb dX6_init_27 (by decide) ?_
  refine va_newa (atype := .int) (ty := .int) (a0 := (3, .inl (fun _ => 0))) (N' := 3) hx hb (htk _ wArr) rfl hK hP hD hS hA (fun _ => rfl) (by decide) rfl (by decide) (Nat.le_of_ble_eq_true rfl) (Nat.le_of_ble_eq_true rfl) dX6_init_28 (fun q7 c8 H hK1 hP hD hS => ?_)
  obtain rfl : cI = c8 := kc_same hK1 0 3 rfl rfl
  have hPD : kc_PD D A H [(h0, .inr (6, [.ref q1, .int 0, .ref q3, .ref q5, .null, .int 0, .int 0, .int 0])), (q1, .inl (cI, 3, .inl (fun _ => 0))), (q3, .inl (cC, 3, .inr (.inr (.inr (.inr (fun _ => none)))))), (q5, .inl (cI, 4, .inl (fun _ => 0))), (q7, .inl (cI, 3, .inl (fun _ => 0)))] := ⟨hP, hD⟩
  replace hP := hPD.1
  replace hD := hPD.2
  clear hPD
  refine W.widen (k := 4) (n := 13) (Nat.le_of_ble_eq_true rfl) (Nat.le_of_ble_eq_true rfl) ?_
  refine va_putF (D := D) (ci := 6) (v := .ref q7) (ty := .array .int) (C := RX6) (T := TX6) (N := 8) hx hb htk inW6 tyX6 tyX6_ok nmX6 hown hK hP hD hS 0 rfl rfl 4 (by decide) (htk _ kfX6_24) (fun _ h9 => h9) rfl hin rfl (by decide +kernel) rfl rfl (Nat.le_of_ble_eq_true rfl) dX6_init_30 (fun H locs hP hD hS => ?_)
  have hPD : kc_PD D A H [(h0, .inr (6, [.ref q1, .int 0, .ref q3, .ref q5, .ref q7, .int 0, .int 0, .int 0])), (q1, .inl (cI, 3, .inl (fun _ => 0))), (q3, .inl (cC, 3, .inr (.inr (.inr (.inr (fun _ => none)))))), (q5, .inl (cI, 4, .inl (fun _ => 0))), (q7, .inl (cI, 3, .inl (fun _ => 0)))] := ⟨hP, hD⟩
  replace hP := hPD.1
  replace hD := hPD.2
  clear hPD
  refine lv_iconst (v := 0) hx hb dX6_init_33 (by decide) ?_
  refine lv_istore_n (lv' := [(1, .int 0), (0, .ref h0)]) hx hb dX6_init_34 rfl hl (by decide) rfl (fun ls hl => ?_)
  refine lv_iload_n hx hb dX6_init_35 rfl (lv_at hl 0 rfl) ?_
  refine lv_iconst (v := 3) hx hb dX6_init_36 (by decide) ?_
  refine lv_icmp_ge (tgt := 59) hx hb dX6_init_37 (by decide) (fun c9 => absurd c9 (by decide)) (fun _ => ?_)
  refine lv_aload_n hx hb dX6_init_40 rfl (lv_at hl 1 rfl) ?_
  refine va_get (D := D) (ci := 6) (v := .ref q3) (C := RX6) (T := TX6) (N := 8) hx hb htk inW6 hown hK hP 0 rfl rfl 2 (by decide) (htk _ kfX6_17) (fun _ h9 => h9) rfl dX6_init_41 ?_
  refine lv_iload_n hx hb dX6_init_44 rfl (lv_at hl 0 rfl) ?_
  refine va_new (ci := 0) (fs := [.null, .null, .int 0, .int 0]) (C := RX0) (T := TX0) (N := 4) hx hb htk inW0 tyX0 tyX0_ok hown (htk _ kcX6_15) (htk _ wKX0) (htk _ wNX0) hK hP hD hS hA rfl (fun j hj => by rcases (show j = 0 ∨ j = 1 ∨ j = 2 ∨ j = 3 by omega) with rfl | rfl | rfl | rfl <;> rfl) (Nat.le_of_ble_eq_true rfl) (Nat.le_of_ble_eq_true rfl) dX6_init_45 (fun q9 H hP hD hS => ?_)
  have hPD : kc_PD D A H [(h0, .inr (6, [.ref q1, .int 0, .ref q3, .ref q5, .ref q7, .int 0, .int 0, .int 0])), (q1, .inl (cI, 3, .inl (fun _ => 0))), (q3, .inl (cC, 3, .inr (.inr (.inr (.inr (fun _ => none)))))), (q5, .inl (cI, 4, .inl (fun _ => 0))), (q7, .inl (cI, 3, .inl (fun _ => 0))), (q9, .inr (0, [.null, .null, .int 0, .int 0]))] := ⟨hP, hD⟩
  replace hP := hPD.1
  replace hD := hPD.2
  clear hPD
  refine W.widen (k := 5) (n := 17) (Nat.le_of_ble_eq_true rfl) (Nat.le_of_ble_eq_true rfl) ?_
  refine lv_dup hx hb dX6_init_48 rfl ?_
  have hPc := hP.sub (ws' := [(q9, .inr (0, [.null, .null, .int 0, .int 0]))]) [5] rfl
  have hDc := hD.sub (ws' := [(q9, .inr (0, [.null, .null, .int 0, .int 0]))]) [5] (by decide) rfl
  have hFc := va_free (wc := [(q9, .inr (0, [.null, .null, .int 0, .int 0]))]) hD hS hA [5] rfl
  refine va_callv (va_runIN (b := q9) (As := []) (rest := [.ref q9, .int 0, .ref q3]) ⟨hx, hb, hml, hown, htk⟩ (k_X0_init l D cI cII cC q9 H.size) ⟨va_cnB (host := "WashSails") 0 htk (kw_good wCX0_init (fun w h => h)) rfl rfl rfl (hSt.1 (RX6, 27, yX0_init) (by decide)) (htk _ wNX0) (by decide +kernel) ⟨Nat.le_of_ble_eq_true rfl, Nat.le_of_ble_eq_true rfl⟩, rfl, htk _ wIX0_init⟩ ⟨kc_blind, fun U hU hW => ⟨rfl, by rw [hU], by rw [hU]; exact hPc, va_K.moved hW.alike hK, hDc.weaken (fun _ _ _ _ => trivial), hSt.next hW⟩⟩ rfl rfl hl.1 rfl (lv_room (Nat.le_of_ble_eq_true rfl)) dX6_init_49 ⟨Nat.le_of_ble_eq_true rfl, Nat.le_of_ble_eq_true rfl⟩) hS (fun q _ h => hFc q h) hFc (fun u t H1 locs ht hvm hw hB hz1 hk1 hS => ?_)
  obtain ⟨q10, q11, hP1, hD1⟩ := hB
  rw [ht] at hP1
  obtain ⟨hP, hD⟩ := va_join (wr := [(h0, .inr (6, [.ref q1, .int 0, .ref q3, .ref q5, .ref q7, .int 0, .int 0, .int 0])), (q1, .inl (cI, 3, .inl (fun _ => 0))), (q3, .inl (cC, 3, .inr (.inr (.inr (.inr (fun _ => none)))))), (q5, .inl (cI, 4, .inl (fun _ => 0))), (q7, .inl (cI, 3, .inl (fun _ => 0)))]) (w1 := [(q9, .inr (0, [.ref q10, .ref q11, .int 0, .int 0])), (q10, .inl (cI, 64, .inl (fun _ => 0))), (q11, .inl (cI, 64, .inl (fun _ => 0)))]) hP hD [5] [0, 1, 2, 3, 4] rfl rfl (by decide) (by decide) hk1 hFc hP1 hD1
  generalize H1 = H at hP hS ⊢
  have hPD : kc_PD D A H [(h0, .inr (6, [.ref q1, .int 0, .ref q3, .ref q5, .ref q7, .int 0, .int 0, .int 0])), (q1, .inl (cI, 3, .inl (fun _ => 0))), (q3, .inl (cC, 3, .inr (.inr (.inr (.inr (fun _ => none)))))), (q5, .inl (cI, 4, .inl (fun _ => 0))), (q7, .inl (cI, 3, .inl (fun _ => 0))), (q9, .inr (0, [.ref q10, .ref q11, .int 0, .int 0])), (q10, .inl (cI, 64, .inl (fun _ => 0))), (q11, .inl (cI, 64, .inl (fun _ => 0)))] := ⟨hP, hD⟩
  replace hP := hPD.1
  replace hD := hPD.2
  clear hPD
  refine W.widen (k := 7) (n := 145) (Nat.le_of_ble_eq_true rfl) (Nat.le_of_ble_eq_true rfl) ?_
  refine va_astq (D := D) (r := (RX0, TX0, 4)) (i := 0) hx hb hK hP hD hS 2 2 5 0 rfl rfl rfl rfl (kw_in (by decide) (by decide)) dX6_init_52 (fun H locs hP hD hS => ?_)
  have hPD : kc_PD D A H [(h0, .inr (6, [.ref q1, .int 0, .ref q3, .ref q5, .ref q7, .int 0, .int 0, .int 0])), (q1, .inl (cI, 3, .inl (fun _ => 0))), (q3, .inl (cC, 3, .inr (.inr (.inr (.inr (va_up (fun _ => none) 0 (some q9))))))), (q5, .inl (cI, 4, .inl (fun _ => 0))), (q7, .inl (cI, 3, .inl (fun _ => 0))), (q9, .inr (0, [.ref q10, .ref q11, .int 0, .int 0])), (q10, .inl (cI, 64, .inl (fun _ => 0))), (q11, .inl (cI, 64, .inl (fun _ => 0)))] := ⟨hP, hD⟩
  replace hP := hPD.1
  replace hD := hPD.2
  clear hPD
  refine lv_iinc (v := 1) (lv' := [(1, .int 1), (0, .ref h0)]) hx hb dX6_init_53 hl (k := 0) rfl (by decide) (by decide) rfl (fun ls hl => ?_)
  refine lv_goto (tgt := 35) hx hb dX6_init_56 (by decide) ?_
  refine lv_iload_n hx hb dX6_init_35 rfl (lv_at hl 0 rfl) ?_
  refine lv_iconst (v := 3) hx hb dX6_init_36 (by decide) ?_
  refine lv_icmp_ge (tgt := 59) hx hb dX6_init_37 (by decide) (fun c9 => absurd c9 (by decide)) (fun _ => ?_)
  refine lv_aload_n hx hb dX6_init_40 rfl (lv_at hl 1 rfl) ?_
  refine va_get (D := D) (ci := 6) (v := .ref q3) (C := RX6) (T := TX6) (N := 8) hx hb htk inW6 hown hK hP 0 rfl rfl 2 (by decide) (htk _ kfX6_17) (fun _ h9 => h9) rfl dX6_init_41 ?_
  refine lv_iload_n hx hb dX6_init_44 rfl (lv_at hl 0 rfl) ?_
  refine va_new (ci := 0) (fs := [.null, .null, .int 0, .int 0]) (C := RX0) (T := TX0) (N := 4) hx hb htk inW0 tyX0 tyX0_ok hown (htk _ kcX6_15) (htk _ wKX0) (htk _ wNX0) hK hP hD hS hA rfl (fun j hj => by rcases (show j = 0 ∨ j = 1 ∨ j = 2 ∨ j = 3 by omega) with rfl | rfl | rfl | rfl <;> rfl) (Nat.le_of_ble_eq_true rfl) (Nat.le_of_ble_eq_true rfl) dX6_init_45 (fun q12 H hP hD hS => ?_)
  have hPD : kc_PD D A H [(h0, .inr (6, [.ref q1, .int 0, .ref q3, .ref q5, .ref q7, .int 0, .int 0, .int 0])), (q1, .inl (cI, 3, .inl (fun _ => 0))), (q3, .inl (cC, 3, .inr (.inr (.inr (.inr (va_up (fun _ => none) 0 (some q9))))))), (q5, .inl (cI, 4, .inl (fun _ => 0))), (q7, .inl (cI, 3, .inl (fun _ => 0))), (q9, .inr (0, [.ref q10, .ref q11, .int 0, .int 0])), (q10, .inl (cI, 64, .inl (fun _ => 0))), (q11, .inl (cI, 64, .inl (fun _ => 0))), (q12, .inr (0, [.null, .null, .int 0, .int 0]))] := ⟨hP, hD⟩
  replace hP := hPD.1
  replace hD := hPD.2
  clear hPD
  refine W.widen (k := 8) (n := 149) (Nat.le_of_ble_eq_true rfl) (Nat.le_of_ble_eq_true rfl) ?_
  refine lv_dup hx hb dX6_init_48 rfl ?_
  have hPc := hP.sub (ws' := [(q12, .inr (0, [.null, .null, .int 0, .int 0]))]) [8] rfl
  have hDc := hD.sub (ws' := [(q12, .inr (0, [.null, .null, .int 0, .int 0]))]) [8] (by decide) rfl
  have hFc := va_free (wc := [(q12, .inr (0, [.null, .null, .int 0, .int 0]))]) hD hS hA [8] rfl
  refine va_callv (va_runIN (b := q12) (As := []) (rest := [.ref q12, .int 1, .ref q3]) ⟨hx, hb, hml, hown, htk⟩ (k_X0_init l D cI cII cC q12 H.size) ⟨va_cnB (host := "WashSails") 0 htk (kw_good wCX0_init (fun w h => h)) rfl rfl rfl (hSt.1 (RX6, 27, yX0_init) (by decide)) (htk _ wNX0) (by decide +kernel) ⟨Nat.le_of_ble_eq_true rfl, Nat.le_of_ble_eq_true rfl⟩, rfl, htk _ wIX0_init⟩ ⟨kc_blind, fun U hU hW => ⟨rfl, by rw [hU], by rw [hU]; exact hPc, va_K.moved hW.alike hK, hDc.weaken (fun _ _ _ _ => trivial), hSt.next hW⟩⟩ rfl rfl hl.1 rfl (lv_room (Nat.le_of_ble_eq_true rfl)) dX6_init_49 ⟨Nat.le_of_ble_eq_true rfl, Nat.le_of_ble_eq_true rfl⟩) hS (fun q _ h => hFc q h) hFc (fun u t H1 locs ht hvm hw hB hz1 hk1 hS => ?_)
  obtain ⟨q13, q14, hP1, hD1⟩ := hB
  rw [ht] at hP1
  obtain ⟨hP, hD⟩ := va_join (wr := [(h0, .inr (6, [.ref q1, .int 0, .ref q3, .ref q5, .ref q7, .int 0, .int 0, .int 0])), (q1, .inl (cI, 3, .inl (fun _ => 0))), (q3, .inl (cC, 3, .inr (.inr (.inr (.inr (va_up (fun _ => none) 0 (some q9))))))), (q5, .inl (cI, 4, .inl (fun _ => 0))), (q7, .inl (cI, 3, .inl (fun _ => 0))), (q9, .inr (0, [.ref q10, .ref q11, .int 0, .int 0])), (q10, .inl (cI, 64, .inl (fun _ => 0))), (q11, .inl (cI, 64, .inl (fun _ => 0)))]) (w1 := [(q12, .inr (0, [.ref q13, .ref q14, .int 0, .int 0])), (q13, .inl (cI, 64, .inl (fun _ => 0))), (q14, .inl (cI, 64, .inl (fun _ => 0)))]) hP hD [8] [0, 1, 2, 3, 4, 5, 6, 7] rfl rfl (by decide) (by decide) hk1 hFc hP1 hD1
  generalize H1 = H at hP hS ⊢
  have hPD : kc_PD D A H [(h0, .inr (6, [.ref q1, .int 0, .ref q3, .ref q5, .ref q7, .int 0, .int 0, .int 0])), (q1, .inl (cI, 3, .inl (fun _ => 0))), (q3, .inl (cC, 3, .inr (.inr (.inr (.inr (va_up (fun _ => none) 0 (some q9))))))), (q5, .inl (cI, 4, .inl (fun _ => 0))), (q7, .inl (cI, 3, .inl (fun _ => 0))), (q9, .inr (0, [.ref q10, .ref q11, .int 0, .int 0])), (q10, .inl (cI, 64, .inl (fun _ => 0))), (q11, .inl (cI, 64, .inl (fun _ => 0))), (q12, .inr (0, [.ref q13, .ref q14, .int 0, .int 0])), (q13, .inl (cI, 64, .inl (fun _ => 0))), (q14, .inl (cI, 64, .inl (fun _ => 0)))] := ⟨hP, hD⟩
  replace hP := hPD.1
  replace hD := hPD.2
  clear hPD
  refine W.widen (k := 10) (n := 277) (Nat.le_of_ble_eq_true rfl) (Nat.le_of_ble_eq_true rfl) ?_
  refine va_astq (D := D) (r := (RX0, TX0, 4)) (i := 1) hx hb hK hP hD hS 2 2 8 0 rfl rfl rfl rfl (kw_in (by decide) (by decide)) dX6_init_52 (fun H locs hP hD hS => ?_)
  have hPD : kc_PD D A H [(h0, .inr (6, [.ref q1, .int 0, .ref q3, .ref q5, .ref q7, .int 0, .int 0, .int 0])), (q1, .inl (cI, 3, .inl (fun _ => 0))), (q3, .inl (cC, 3, .inr (.inr (.inr (.inr (va_up (va_up (fun _ => none) 0 (some q9)) 1 (some q12))))))), (q5, .inl (cI, 4, .inl (fun _ => 0))), (q7, .inl (cI, 3, .inl (fun _ => 0))), (q9, .inr (0, [.ref q10, .ref q11, .int 0, .int 0])), (q10, .inl (cI, 64, .inl (fun _ => 0))), (q11, .inl (cI, 64, .inl (fun _ => 0))), (q12, .inr (0, [.ref q13, .ref q14, .int 0, .int 0])), (q13, .inl (cI, 64, .inl (fun _ => 0))), (q14, .inl (cI, 64, .inl (fun _ => 0)))] := ⟨hP, hD⟩
  replace hP := hPD.1
  replace hD := hPD.2
  clear hPD
  refine lv_iinc (v := 2) (lv' := [(1, .int 2), (0, .ref h0)]) hx hb dX6_init_53 hl (k := 0) rfl (by decide) (by decide) rfl (fun ls hl => ?_)
  refine lv_goto (tgt := 35) hx hb dX6_init_56 (by decide) ?_
  refine lv_iload_n hx hb dX6_init_35 rfl (lv_at hl 0 rfl) ?_
  refine lv_iconst (v := 3) hx hb dX6_init_36 (by decide) ?_
  refine lv_icmp_ge (tgt := 59) hx hb dX6_init_37 (by decide) (fun c9 => absurd c9 (by decide)) (fun _ => ?_)
  refine lv_aload_n hx hb dX6_init_40 rfl (lv_at hl 1 rfl) ?_
  refine va_get (D := D) (ci := 6) (v := .ref q3) (C := RX6) (T := TX6) (N := 8) hx hb htk inW6 hown hK hP 0 rfl rfl 2 (by decide) (htk _ kfX6_17) (fun _ h9 => h9) rfl dX6_init_41 ?_
  refine lv_iload_n hx hb dX6_init_44 rfl (lv_at hl 0 rfl) ?_
  refine va_new (ci := 0) (fs := [.null, .null, .int 0, .int 0]) (C := RX0) (T := TX0) (N := 4) hx hb htk inW0 tyX0 tyX0_ok hown (htk _ kcX6_15) (htk _ wKX0) (htk _ wNX0) hK hP hD hS hA rfl (fun j hj => by rcases (show j = 0 ∨ j = 1 ∨ j = 2 ∨ j = 3 by omega) with rfl | rfl | rfl | rfl <;> rfl) (Nat.le_of_ble_eq_true rfl) (Nat.le_of_ble_eq_true rfl) dX6_init_45 (fun q15 H hP hD hS => ?_)
  have hPD : kc_PD D A H [(h0, .inr (6, [.ref q1, .int 0, .ref q3, .ref q5, .ref q7, .int 0, .int 0, .int 0])), (q1, .inl (cI, 3, .inl (fun _ => 0))), (q3, .inl (cC, 3, .inr (.inr (.inr (.inr (va_up (va_up (fun _ => none) 0 (some q9)) 1 (some q12))))))), (q5, .inl (cI, 4, .inl (fun _ => 0))), (q7, .inl (cI, 3, .inl (fun _ => 0))), (q9, .inr (0, [.ref q10, .ref q11, .int 0, .int 0])), (q10, .inl (cI, 64, .inl (fun _ => 0))), (q11, .inl (cI, 64, .inl (fun _ => 0))), (q12, .inr (0, [.ref q13, .ref q14, .int 0, .int 0])), (q13, .inl (cI, 64, .inl (fun _ => 0))), (q14, .inl (cI, 64, .inl (fun _ => 0))), (q15, .inr (0, [.null, .null, .int 0, .int 0]))] := ⟨hP, hD⟩
  replace hP := hPD.1
  replace hD := hPD.2
  clear hPD
  refine W.widen (k := 11) (n := 281) (Nat.le_of_ble_eq_true rfl) (Nat.le_of_ble_eq_true rfl) ?_
  refine lv_dup hx hb dX6_init_48 rfl ?_
  have hPc := hP.sub (ws' := [(q15, .inr (0, [.null, .null, .int 0, .int 0]))]) [11] rfl
  have hDc := hD.sub (ws' := [(q15, .inr (0, [.null, .null, .int 0, .int 0]))]) [11] (by decide) rfl
  have hFc := va_free (wc := [(q15, .inr (0, [.null, .null, .int 0, .int 0]))]) hD hS hA [11] rfl
  refine va_callv (va_runIN (b := q15) (As := []) (rest := [.ref q15, .int 2, .ref q3]) ⟨hx, hb, hml, hown, htk⟩ (k_X0_init l D cI cII cC q15 H.size) ⟨va_cnB (host := "WashSails") 0 htk (kw_good wCX0_init (fun w h => h)) rfl rfl rfl (hSt.1 (RX6, 27, yX0_init) (by decide)) (htk _ wNX0) (by decide +kernel) ⟨Nat.le_of_ble_eq_true rfl, Nat.le_of_ble_eq_true rfl⟩, rfl, htk _ wIX0_init⟩ ⟨kc_blind, fun U hU hW => ⟨rfl, by rw [hU], by rw [hU]; exact hPc, va_K.moved hW.alike hK, hDc.weaken (fun _ _ _ _ => trivial), hSt.next hW⟩⟩ rfl rfl hl.1 rfl (lv_room (Nat.le_of_ble_eq_true rfl)) dX6_init_49 ⟨Nat.le_of_ble_eq_true rfl, Nat.le_of_ble_eq_true rfl⟩) hS (fun q _ h => hFc q h) hFc (fun u t H1 locs ht hvm hw hB hz1 hk1 hS => ?_)
  obtain ⟨q16, q17, hP1, hD1⟩ := hB
  rw [ht] at hP1
  obtain ⟨hP, hD⟩ := va_join (wr := [(h0, .inr (6, [.ref q1, .int 0, .ref q3, .ref q5, .ref q7, .int 0, .int 0, .int 0])), (q1, .inl (cI, 3, .inl (fun _ => 0))), (q3, .inl (cC, 3, .inr (.inr (.inr (.inr (va_up (va_up (fun _ => none) 0 (some q9)) 1 (some q12))))))), (q5, .inl (cI, 4, .inl (fun _ => 0))), (q7, .inl (cI, 3, .inl (fun _ => 0))), (q9, .inr (0, [.ref q10, .ref q11, .int 0, .int 0])), (q10, .inl (cI, 64, .inl (fun _ => 0))), (q11, .inl (cI, 64, .inl (fun _ => 0))), (q12, .inr (0, [.ref q13, .ref q14, .int 0, .int 0])), (q13, .inl (cI, 64, .inl (fun _ => 0))), (q14, .inl (cI, 64, .inl (fun _ => 0)))]) (w1 := [(q15, .inr (0, [.ref q16, .ref q17, .int 0, .int 0])), (q16, .inl (cI, 64, .inl (fun _ => 0))), (q17, .inl (cI, 64, .inl (fun _ => 0)))]) hP hD [11] [0, 1, 2, 3, 4, 5, 6, 7, 8, 9, 10] rfl rfl (by decide) (by decide) hk1 hFc hP1 hD1
  generalize H1 = H at hP hS ⊢
  have hPD : kc_PD D A H [(h0, .inr (6, [.ref q1, .int 0, .ref q3, .ref q5, .ref q7, .int 0, .int 0, .int 0])), (q1, .inl (cI, 3, .inl (fun _ => 0))), (q3, .inl (cC, 3, .inr (.inr (.inr (.inr (va_up (va_up (fun _ => none) 0 (some q9)) 1 (some q12))))))), (q5, .inl (cI, 4, .inl (fun _ => 0))), (q7, .inl (cI, 3, .inl (fun _ => 0))), (q9, .inr (0, [.ref q10, .ref q11, .int 0, .int 0])), (q10, .inl (cI, 64, .inl (fun _ => 0))), (q11, .inl (cI, 64, .inl (fun _ => 0))), (q12, .inr (0, [.ref q13, .ref q14, .int 0, .int 0])), (q13, .inl (cI, 64, .inl (fun _ => 0))), (q14, .inl (cI, 64, .inl (fun _ => 0))), (q15, .inr (0, [.ref q16, .ref q17, .int 0, .int 0])), (q16, .inl (cI, 64, .inl (fun _ => 0))), (q17, .inl (cI, 64, .inl (fun _ => 0)))] := ⟨hP, hD⟩
  replace hP := hPD.1
  replace hD := hPD.2
  clear hPD
  refine W.widen (k := 13) (n := 409) (Nat.le_of_ble_eq_true rfl) (Nat.le_of_ble_eq_true rfl) ?_
  refine va_astq (D := D) (r := (RX0, TX0, 4)) (i := 2) hx hb hK hP hD hS 2 2 11 0 rfl rfl rfl rfl (kw_in (by decide) (by decide)) dX6_init_52 (fun H locs hP hD hS => ?_)
  have hPD : kc_PD D A H [(h0, .inr (6, [.ref q1, .int 0, .ref q3, .ref q5, .ref q7, .int 0, .int 0, .int 0])), (q1, .inl (cI, 3, .inl (fun _ => 0))), (q3, .inl (cC, 3, .inr (.inr (.inr (.inr (va_up (va_up (va_up (fun _ => none) 0 (some q9)) 1 (some q12)) 2 (some q15))))))), (q5, .inl (cI, 4, .inl (fun _ => 0))), (q7, .inl (cI, 3, .inl (fun _ => 0))), (q9, .inr (0, [.ref q10, .ref q11, .int 0, .int 0])), (q10, .inl (cI, 64, .inl (fun _ => 0))), (q11, .inl (cI, 64, .inl (fun _ => 0))), (q12, .inr (0, [.ref q13, .ref q14, .int 0, .int 0])), (q13, .inl (cI, 64, .inl (fun _ => 0))), (q14, .inl (cI, 64, .inl (fun _ => 0))), (q15, .inr (0, [.ref q16, .ref q17, .int 0, .int 0])), (q16, .inl (cI, 64, .inl (fun _ => 0))), (q17, .inl (cI, 64, .inl (fun _ => 0)))] := ⟨hP, hD⟩
  replace hP := hPD.1
  replace hD := hPD.2
  clear hPD
  refine lv_iinc (v := 3) (lv' := [(1, .int 3), (0, .ref h0)]) hx hb dX6_init_53 hl (k := 0) rfl (by decide) (by decide) rfl (fun ls hl => ?_)
  refine lv_goto (tgt := 35) hx hb dX6_init_56 (by decide) ?_
  refine lv_iload_n hx hb dX6_init_35 rfl (lv_at hl 0 rfl) ?_
  refine lv_iconst (v := 3) hx hb dX6_init_36 (by decide) ?_
  refine lv_icmp_ge (tgt := 59) hx hb dX6_init_37 (by decide) (fun _ => ?_) (fun c9 => absurd (by decide) c9)
  exact W.vret hx hb hr (fun t ht hW => ⟨⟨(), rfl, trivial, q1, q3, q5, q7, q9, q10, q11, q12, q13, q14, q15, q16, q17, by rw [ht]; exact hP, hD⟩, hS.F ht⟩) hS.2.2 dX6_init_59
end
section
def kc_SX : kw_S := ((fun a => if a = 1 then (fun j => if j = 0 then 40 else 0) else if a = 2 then (fun j => if j = 0 then 60 else 0) else if a = 5 then (fun j => if j = 0 then 40 else 0) else if a = 13 then (fun j => if j < 6 then (-1) else 0) else if a = 15 then (fun j => if j < 4 then (-1) else 0) else if a = 21 then (fun j => if j < 3 then (-1) else 0) else fun _ => 0), (fun a => if a = 8 then (fun j => if j = 4 then 1 else 0) else fun _ => 0))
set_option maxHeartbeats 4000000 in
set_option maxRecDepth 100000 in
theorem k_X7_init (l : Launch) (D : va_G) (cI cII cC : ClassId) (h0 sz : Nat) : Met l yX7_init (.code yX7_init cX7_init 1 none :: kw_ws) (kc_rm 4 60 1347) (kc_Pre D cI cII cC sz [.ref h0] [(h0, .inr (7, [.null, .null, .null, .null, .null, .null, .null, .null, .null, .null, .null]))]) (va_Qv (fun _ : Unit => True) (fun _ t => ∃ r : Nat → Nat, r 0 = h0 ∧ va_P D vwCl (kw_W (r, D, kc_cl cI cII cC) KX kc_SX) t.heap ∧ va_D (va_A [(h0, .inr (7, [.null, .null, .null, .null, .null, .null, .null, .null, .null, .null, .null]))] sz) (kw_W (r, D, kc_cl cI cII cC) KX kc_SX)) (va_A [(h0, .inr (7, [.null, .null, .null, .null, .null, .null, .null, .null, .null, .null, .null]))] sz)) 60 1347 (va_A [(h0, .inr (7, [.null, .null, .null, .null, .null, .null, .null, .null, .null, .null, .null]))] sz) := by
  refine Met.ofW (cc := cX7_init) (maxL := 1) (ret := none) (by decide) rfl ?_
  intro p e s m args below meth c s₁ B hml hv
  obtain ⟨rfl, hsz, hP, hK, hD0, hSt⟩ := hv
  have hx := B.exec
  have hb := B.bytes
  have hr := B.returns
  have hts := atoms_spec (ws := .code yX7_init cX7_init 1 none :: kw_ws) B.pre
  have htk := fun w (hw : w ∈ kw_ws) => hts w (List.mem_cons_of_mem _ hw)
  have hown : s.vm.findClass RX7 = some m.cls := findClass_of_methodNamed B.named
  have hlocks := B.notSynchronized
  have hin : meth.name = "<init>" := (name_of_methodNamed B.named B.method).1
  subst hsz
  have hD := hD0.self (sz := s.heap.size)
  generalize hAe : va_A [(h0, .inr (7, [.null, .null, .null, .null, .null, .null, .null, .null, .null, .null, .null]))] s.heap.size = A at hD ⊢
  have hA : ∀ q : Nat, s.heap.size ≤ q → A q := fun q h => by rw [← hAe]; exact Or.inr h
  have hS : va_S A s.heap s.heap [] := va_S.rf
  have hP : va_P D vwCl [(h0, .inr (7, [.null, .null, .null, .null, .null, .null, .null, .null, .null, .null, .null]))] s.heap := hP
  have hl := lv_entry ([.ref h0]) (n := 1) (Nat.le_of_ble_eq_true rfl)
  rw [lg_entry_eq]
  generalize (lg_sl ([.ref h0]) ++ List.replicate (1 - (lg_sl ([.ref h0])).length) Slot.unset).toArray = ls at hl ⊢
  have hl : lv_has ls 1 [(0, .ref h0)] := hl
  refine lv_aload_n hx hb dX7_init_0 rfl (lv_at hl 0 rfl) ?_
  refine W.objInit hx hb hown (htk _ kmX7_3) (htk _ wIObj) (htk _ wCObj) rfl (by rw [hml]; exact hl.1) rfl dX7_init_1 (Nat.le_of_ble_eq_true rfl) (Nat.le_of_ble_eq_true rfl) ?_
  refine W.eq (g2 := F0 m 4 ls []) rfl ?_
  refine lv_aload_n hx hb dX7_init_4 rfl (lv_at hl 0 rfl) ?_
  refine va_new (ci := 3) (fs := [.int 0, .null, .null]) (C := RX3) (T := TX3) (N := 3) hx hb htk inW3 tyX3 tyX3_ok hown (htk _ kcX7_9) (htk _ wKX3) (htk _ wNX3) hK hP hD hS hA rfl (fun j hj => by rcases (show j = 0 ∨ j = 1 ∨ j = 2 by omega) with rfl | rfl | rfl <;> rfl) (Nat.le_of_ble_eq_true rfl) (Nat.le_of_ble_eq_true rfl) dX7_init_5 (fun q1 H hP hD hS => ?_)
  have hPD : kc_PD D A H [(h0, .inr (7, [.null, .null, .null, .null, .null, .null, .null, .null, .null, .null, .null])), (q1, .inr (3, [.int 0, .null, .null]))] := ⟨hP, hD⟩
  replace hP := hPD.1
  replace hD := hPD.2
  clear hPD
  refine W.widen (k := 1) (n := 3) (Nat.le_of_ble_eq_true rfl) (Nat.le_of_ble_eq_true rfl) ?_
  refine lv_dup hx hb dX7_init_8 rfl ?_
  refine lv_bipush (v := 6) hx hb dX7_init_9 (by decide) ?_
  refine lv_bipush (v := 40) hx hb dX7_init_11 (by decide) ?_
  have hPc := hP.sub (ws' := [(q1, .inr (3, [.int 0, .null, .null]))]) [1] rfl
  have hDc := hD.sub (ws' := [(q1, .inr (3, [.int 0, .null, .null]))]) [1] (by decide) rfl
  have hFc := va_free (wc := [(q1, .inr (3, [.int 0, .null, .null]))]) hD hS hA [1] rfl
  refine va_callv (va_runI (b := q1) (As := [.int 6, .int 40]) (rest := [.ref q1, .ref h0]) ⟨hx, hb, hml, hown, htk⟩ (k_X3_init_6_40 l D cI cII cC q1 H.size) (cwI 2 htk (kw_good wCX3_init (fun w h => h)) rfl rfl rfl (htk _ wNX3) (htk _ kmX7_11) (htk _ wIX3_init) rfl (by decide +kernel) ⟨Nat.le_of_ble_eq_true rfl, Nat.le_of_ble_eq_true rfl⟩) ⟨kc_blind, fun U hU hW => ⟨rfl, by rw [hU], by rw [hU]; exact hPc, va_K.moved hW.alike hK, hDc.weaken (fun _ _ _ _ => trivial), hSt.next hW⟩⟩ rfl rfl hl.1 rfl (lv_room (Nat.le_of_ble_eq_true rfl)) dX7_init_13 ⟨Nat.le_of_ble_eq_true rfl, Nat.le_of_ble_eq_true rfl⟩) hS (fun q _ h => hFc q h) hFc (fun u t H1 locs ht hvm hw hB hz1 hk1 hS => ?_)
  obtain ⟨q2, q3, q4, q5, q6, q7, q8, q9, hP1, hD1⟩ := hB
  rw [ht] at hP1
  obtain ⟨hP, hD⟩ := va_join (wr := [(h0, .inr (7, [.null, .null, .null, .null, .null, .null, .null, .null, .null, .null, .null]))]) (w1 := [(q1, .inr (3, [.int 40, .ref q2, .ref q9])), (q2, .inl (cII, 6, .inr (.inr (.inr (.inr (fun j : Nat => ([q3, q4, q5, q6, q7, q8] : List Nat)[j]?)))))), (q3, .inl (cI, 40, .inl (fun _ => 0))), (q4, .inl (cI, 40, .inl (fun _ => 0))), (q5, .inl (cI, 40, .inl (fun _ => 0))), (q6, .inl (cI, 40, .inl (fun _ => 0))), (q7, .inl (cI, 40, .inl (fun _ => 0))), (q8, .inl (cI, 40, .inl (fun _ => 0))), (q9, .inl (cI, 6, .inl (fun j => if j < 6 then (-1) else 0)))]) hP hD [1] [0] rfl rfl (by decide) (by decide) hk1 hFc hP1 hD1
  generalize H1 = H at hP hS ⊢
  have hPD : kc_PD D A H [(h0, .inr (7, [.null, .null, .null, .null, .null, .null, .null, .null, .null, .null, .null])), (q1, .inr (3, [.int 40, .ref q2, .ref q9])), (q2, .inl (cII, 6, .inr (.inr (.inr (.inr (fun j : Nat => ([q3, q4, q5, q6, q7, q8] : List Nat)[j]?)))))), (q3, .inl (cI, 40, .inl (fun _ => 0))), (q4, .inl (cI, 40, .inl (fun _ => 0))), (q5, .inl (cI, 40, .inl (fun _ => 0))), (q6, .inl (cI, 40, .inl (fun _ => 0))), (q7, .inl (cI, 40, .inl (fun _ => 0))), (q8, .inl (cI, 40, .inl (fun _ => 0))), (q9, .inl (cI, 6, .inl (fun j => if j < 6 then (-1) else 0)))] := ⟨hP, hD⟩
  replace hP := hPD.1
  replace hD := hPD.2
  clear hPD
  refine W.widen (k := 9) (n := 255) (Nat.le_of_ble_eq_true rfl) (Nat.le_of_ble_eq_true rfl) ?_
  refine va_putF (D := D) (ci := 7) (v := .ref q1) (ty := .object "WashSails$Shelf") (C := RX7) (T := TX7) (N := 11) hx hb htk inW7 tyX7 tyX7_ok nmX7 hown hK hP hD hS 0 rfl rfl 0 (by decide) (htk _ kfX7_14) (fun _ h9 => h9) rfl hin rfl (by decide +kernel) rfl rfl (Nat.le_of_ble_eq_true rfl) dX7_init_16 (fun H locs hP hD hS => ?_)
  have hPD : kc_PD D A H [(h0, .inr (7, [.ref q1, .null, .null, .null, .null, .null, .null, .null, .null, .null, .null])), (q1, .inr (3, [.int 40, .ref q2, .ref q9])), (q2, .inl (cII, 6, .inr (.inr (.inr (.inr (fun j : Nat => ([q3, q4, q5, q6, q7, q8] : List Nat)[j]?)))))), (q3, .inl (cI, 40, .inl (fun _ => 0))), (q4, .inl (cI, 40, .inl (fun _ => 0))), (q5, .inl (cI, 40, .inl (fun _ => 0))), (q6, .inl (cI, 40, .inl (fun _ => 0))), (q7, .inl (cI, 40, .inl (fun _ => 0))), (q8, .inl (cI, 40, .inl (fun _ => 0))), (q9, .inl (cI, 6, .inl (fun j => if j < 6 then (-1) else 0)))] := ⟨hP, hD⟩
  replace hP := hPD.1
  replace hD := hPD.2
  clear hPD
  refine lv_aload_n hx hb dX7_init_19 rfl (lv_at hl 0 rfl) ?_
  refine va_new (ci := 3) (fs := [.int 0, .null, .null]) (C := RX3) (T := TX3) (N := 3) hx hb htk inW3 tyX3 tyX3_ok hown (htk _ kcX7_9) (htk _ wKX3) (htk _ wNX3) hK hP hD hS hA rfl (fun j hj => by rcases (show j = 0 ∨ j = 1 ∨ j = 2 by omega) with rfl | rfl | rfl <;> rfl) (Nat.le_of_ble_eq_true rfl) (Nat.le_of_ble_eq_true rfl) dX7_init_20 (fun q10 H hP hD hS => ?_)
  have hPD : kc_PD D A H [(h0, .inr (7, [.ref q1, .null, .null, .null, .null, .null, .null, .null, .null, .null, .null])), (q1, .inr (3, [.int 40, .ref q2, .ref q9])), (q2, .inl (cII, 6, .inr (.inr (.inr (.inr (fun j : Nat => ([q3, q4, q5, q6, q7, q8] : List Nat)[j]?)))))), (q3, .inl (cI, 40, .inl (fun _ => 0))), (q4, .inl (cI, 40, .inl (fun _ => 0))), (q5, .inl (cI, 40, .inl (fun _ => 0))), (q6, .inl (cI, 40, .inl (fun _ => 0))), (q7, .inl (cI, 40, .inl (fun _ => 0))), (q8, .inl (cI, 40, .inl (fun _ => 0))), (q9, .inl (cI, 6, .inl (fun j => if j < 6 then (-1) else 0))), (q10, .inr (3, [.int 0, .null, .null]))] := ⟨hP, hD⟩
  replace hP := hPD.1
  replace hD := hPD.2
  clear hPD
  refine W.widen (k := 10) (n := 258) (Nat.le_of_ble_eq_true rfl) (Nat.le_of_ble_eq_true rfl) ?_
  refine lv_dup hx hb dX7_init_23 rfl ?_
  refine lv_iconst (v := 4) hx hb dX7_init_24 (by decide) ?_
  refine lv_bipush (v := 60) hx hb dX7_init_25 (by decide) ?_
  have hPc := hP.sub (ws' := [(q10, .inr (3, [.int 0, .null, .null]))]) [10] rfl
  have hDc := hD.sub (ws' := [(q10, .inr (3, [.int 0, .null, .null]))]) [10] (by decide) rfl
  have hFc := va_free (wc := [(q10, .inr (3, [.int 0, .null, .null]))]) hD hS hA [10] rfl
  refine va_callv (va_runI (b := q10) (As := [.int 4, .int 60]) (rest := [.ref q10, .ref h0]) ⟨hx, hb, hml, hown, htk⟩ (k_X3_init_4_60 l D cI cII cC q10 H.size) (cwI 2 htk (kw_good wCX3_init (fun w h => h)) rfl rfl rfl (htk _ wNX3) (htk _ kmX7_11) (htk _ wIX3_init) rfl (by decide +kernel) ⟨Nat.le_of_ble_eq_true rfl, Nat.le_of_ble_eq_true rfl⟩) ⟨kc_blind, fun U hU hW => ⟨rfl, by rw [hU], by rw [hU]; exact hPc, va_K.moved hW.alike hK, hDc.weaken (fun _ _ _ _ => trivial), hSt.next hW⟩⟩ rfl rfl hl.1 rfl (lv_room (Nat.le_of_ble_eq_true rfl)) dX7_init_27 ⟨Nat.le_of_ble_eq_true rfl, Nat.le_of_ble_eq_true rfl⟩) hS (fun q _ h => hFc q h) hFc (fun u t H1 locs ht hvm hw hB hz1 hk1 hS => ?_)
  obtain ⟨q11, q12, q13, q14, q15, q16, hP1, hD1⟩ := hB
  rw [ht] at hP1
  obtain ⟨hP, hD⟩ := va_join (wr := [(h0, .inr (7, [.ref q1, .null, .null, .null, .null, .null, .null, .null, .null, .null, .null])), (q1, .inr (3, [.int 40, .ref q2, .ref q9])), (q2, .inl (cII, 6, .inr (.inr (.inr (.inr (fun j : Nat => ([q3, q4, q5, q6, q7, q8] : List Nat)[j]?)))))), (q3, .inl (cI, 40, .inl (fun _ => 0))), (q4, .inl (cI, 40, .inl (fun _ => 0))), (q5, .inl (cI, 40, .inl (fun _ => 0))), (q6, .inl (cI, 40, .inl (fun _ => 0))), (q7, .inl (cI, 40, .inl (fun _ => 0))), (q8, .inl (cI, 40, .inl (fun _ => 0))), (q9, .inl (cI, 6, .inl (fun j => if j < 6 then (-1) else 0)))]) (w1 := [(q10, .inr (3, [.int 60, .ref q11, .ref q16])), (q11, .inl (cII, 4, .inr (.inr (.inr (.inr (fun j : Nat => ([q12, q13, q14, q15] : List Nat)[j]?)))))), (q12, .inl (cI, 60, .inl (fun _ => 0))), (q13, .inl (cI, 60, .inl (fun _ => 0))), (q14, .inl (cI, 60, .inl (fun _ => 0))), (q15, .inl (cI, 60, .inl (fun _ => 0))), (q16, .inl (cI, 4, .inl (fun j => if j < 4 then (-1) else 0)))]) hP hD [10] [0, 1, 2, 3, 4, 5, 6, 7, 8, 9] rfl rfl (by decide) (by decide) hk1 hFc hP1 hD1
  generalize H1 = H at hP hS ⊢
  have hPD : kc_PD D A H [(h0, .inr (7, [.ref q1, .null, .null, .null, .null, .null, .null, .null, .null, .null, .null])), (q1, .inr (3, [.int 40, .ref q2, .ref q9])), (q2, .inl (cII, 6, .inr (.inr (.inr (.inr (fun j : Nat => ([q3, q4, q5, q6, q7, q8] : List Nat)[j]?)))))), (q3, .inl (cI, 40, .inl (fun _ => 0))), (q4, .inl (cI, 40, .inl (fun _ => 0))), (q5, .inl (cI, 40, .inl (fun _ => 0))), (q6, .inl (cI, 40, .inl (fun _ => 0))), (q7, .inl (cI, 40, .inl (fun _ => 0))), (q8, .inl (cI, 40, .inl (fun _ => 0))), (q9, .inl (cI, 6, .inl (fun j => if j < 6 then (-1) else 0))), (q10, .inr (3, [.int 60, .ref q11, .ref q16])), (q11, .inl (cII, 4, .inr (.inr (.inr (.inr (fun j : Nat => ([q12, q13, q14, q15] : List Nat)[j]?)))))), (q12, .inl (cI, 60, .inl (fun _ => 0))), (q13, .inl (cI, 60, .inl (fun _ => 0))), (q14, .inl (cI, 60, .inl (fun _ => 0))), (q15, .inl (cI, 60, .inl (fun _ => 0))), (q16, .inl (cI, 4, .inl (fun j => if j < 4 then (-1) else 0)))] := ⟨hP, hD⟩
  replace hP := hPD.1
  replace hD := hPD.2
  clear hPD
  refine W.widen (k := 16) (n := 506) (Nat.le_of_ble_eq_true rfl) (Nat.le_of_ble_eq_true rfl) ?_
  refine va_putF (D := D) (ci := 7) (v := .ref q10) (ty := .object "WashSails$Shelf") (C := RX7) (T := TX7) (N := 11) hx hb htk inW7 tyX7 tyX7_ok nmX7 hown hK hP hD hS 0 rfl rfl 1 (by decide) (htk _ kfX7_18) (fun _ h9 => h9) rfl hin rfl (by decide +kernel) rfl rfl (Nat.le_of_ble_eq_true rfl) dX7_init_30 (fun H locs hP hD hS => ?_)
  have hPD : kc_PD D A H [(h0, .inr (7, [.ref q1, .ref q10, .null, .null, .null, .null, .null, .null, .null, .null, .null])), (q1, .inr (3, [.int 40, .ref q2, .ref q9])), (q2, .inl (cII, 6, .inr (.inr (.inr (.inr (fun j : Nat => ([q3, q4, q5, q6, q7, q8] : List Nat)[j]?)))))), (q3, .inl (cI, 40, .inl (fun _ => 0))), (q4, .inl (cI, 40, .inl (fun _ => 0))), (q5, .inl (cI, 40, .inl (fun _ => 0))), (q6, .inl (cI, 40, .inl (fun _ => 0))), (q7, .inl (cI, 40, .inl (fun _ => 0))), (q8, .inl (cI, 40, .inl (fun _ => 0))), (q9, .inl (cI, 6, .inl (fun j => if j < 6 then (-1) else 0))), (q10, .inr (3, [.int 60, .ref q11, .ref q16])), (q11, .inl (cII, 4, .inr (.inr (.inr (.inr (fun j : Nat => ([q12, q13, q14, q15] : List Nat)[j]?)))))), (q12, .inl (cI, 60, .inl (fun _ => 0))), (q13, .inl (cI, 60, .inl (fun _ => 0))), (q14, .inl (cI, 60, .inl (fun _ => 0))), (q15, .inl (cI, 60, .inl (fun _ => 0))), (q16, .inl (cI, 4, .inl (fun j => if j < 4 then (-1) else 0)))] := ⟨hP, hD⟩
  replace hP := hPD.1
  replace hD := hPD.2
  clear hPD
  refine lv_aload_n hx hb dX7_init_33 rfl (lv_at hl 0 rfl) ?_
  refine va_new (ci := 2) (fs := [.null, .int 0]) (C := RX2) (T := TX2) (N := 2) hx hb htk inW2 tyX2 tyX2_ok hown (htk _ kcX7_21) (htk _ wKX2) (htk _ wNX2) hK hP hD hS hA rfl (fun j hj => by rcases (show j = 0 ∨ j = 1 by omega) with rfl | rfl <;> rfl) (Nat.le_of_ble_eq_true rfl) (Nat.le_of_ble_eq_true rfl) dX7_init_34 (fun q17 H hP hD hS => ?_)
  have hPD : kc_PD D A H [(h0, .inr (7, [.ref q1, .ref q10, .null, .null, .null, .null, .null, .null, .null, .null, .null])), (q1, .inr (3, [.int 40, .ref q2, .ref q9])), (q2, .inl (cII, 6, .inr (.inr (.inr (.inr (fun j : Nat => ([q3, q4, q5, q6, q7, q8] : List Nat)[j]?)))))), (q3, .inl (cI, 40, .inl (fun _ => 0))), (q4, .inl (cI, 40, .inl (fun _ => 0))), (q5, .inl (cI, 40, .inl (fun _ => 0))), (q6, .inl (cI, 40, .inl (fun _ => 0))), (q7, .inl (cI, 40, .inl (fun _ => 0))), (q8, .inl (cI, 40, .inl (fun _ => 0))), (q9, .inl (cI, 6, .inl (fun j => if j < 6 then (-1) else 0))), (q10, .inr (3, [.int 60, .ref q11, .ref q16])), (q11, .inl (cII, 4, .inr (.inr (.inr (.inr (fun j : Nat => ([q12, q13, q14, q15] : List Nat)[j]?)))))), (q12, .inl (cI, 60, .inl (fun _ => 0))), (q13, .inl (cI, 60, .inl (fun _ => 0))), (q14, .inl (cI, 60, .inl (fun _ => 0))), (q15, .inl (cI, 60, .inl (fun _ => 0))), (q16, .inl (cI, 4, .inl (fun j => if j < 4 then (-1) else 0))), (q17, .inr (2, [.null, .int 0]))] := ⟨hP, hD⟩
  replace hP := hPD.1
  replace hD := hPD.2
  clear hPD
  refine W.widen (k := 17) (n := 508) (Nat.le_of_ble_eq_true rfl) (Nat.le_of_ble_eq_true rfl) ?_
  refine lv_dup hx hb dX7_init_37 rfl ?_
  have hPc := hP.sub (ws' := [(q17, .inr (2, [.null, .int 0]))]) [17] rfl
  have hDc := hD.sub (ws' := [(q17, .inr (2, [.null, .int 0]))]) [17] (by decide) rfl
  have hFc := va_free (wc := [(q17, .inr (2, [.null, .int 0]))]) hD hS hA [17] rfl
  refine va_callv (va_runIN (b := q17) (As := []) (rest := [.ref q17, .ref h0]) ⟨hx, hb, hml, hown, htk⟩ (k_X2_init l D cI cII cC q17 H.size) ⟨va_cnB (host := "WashSails") 0 htk (kw_good wCX2_init (fun w h => h)) rfl rfl rfl (hSt.1 (RX7, 23, yX2_init) (by decide)) (htk _ wNX2) (by decide +kernel) ⟨Nat.le_of_ble_eq_true rfl, Nat.le_of_ble_eq_true rfl⟩, rfl, htk _ wIX2_init⟩ ⟨kc_blind, fun U hU hW => ⟨rfl, by rw [hU], by rw [hU]; exact hPc, va_K.moved hW.alike hK, hDc.weaken (fun _ _ _ _ => trivial), hSt.next hW⟩⟩ rfl rfl hl.1 rfl (lv_room (Nat.le_of_ble_eq_true rfl)) dX7_init_38 ⟨Nat.le_of_ble_eq_true rfl, Nat.le_of_ble_eq_true rfl⟩) hS (fun q _ h => hFc q h) hFc (fun u t H1 locs ht hvm hw hB hz1 hk1 hS => ?_)
  obtain ⟨q18, q19, q20, q21, q22, q23, hP1, hD1⟩ := hB
  rw [ht] at hP1
  obtain ⟨hP, hD⟩ := va_join (wr := [(h0, .inr (7, [.ref q1, .ref q10, .null, .null, .null, .null, .null, .null, .null, .null, .null])), (q1, .inr (3, [.int 40, .ref q2, .ref q9])), (q2, .inl (cII, 6, .inr (.inr (.inr (.inr (fun j : Nat => ([q3, q4, q5, q6, q7, q8] : List Nat)[j]?)))))), (q3, .inl (cI, 40, .inl (fun _ => 0))), (q4, .inl (cI, 40, .inl (fun _ => 0))), (q5, .inl (cI, 40, .inl (fun _ => 0))), (q6, .inl (cI, 40, .inl (fun _ => 0))), (q7, .inl (cI, 40, .inl (fun _ => 0))), (q8, .inl (cI, 40, .inl (fun _ => 0))), (q9, .inl (cI, 6, .inl (fun j => if j < 6 then (-1) else 0))), (q10, .inr (3, [.int 60, .ref q11, .ref q16])), (q11, .inl (cII, 4, .inr (.inr (.inr (.inr (fun j : Nat => ([q12, q13, q14, q15] : List Nat)[j]?)))))), (q12, .inl (cI, 60, .inl (fun _ => 0))), (q13, .inl (cI, 60, .inl (fun _ => 0))), (q14, .inl (cI, 60, .inl (fun _ => 0))), (q15, .inl (cI, 60, .inl (fun _ => 0))), (q16, .inl (cI, 4, .inl (fun j => if j < 4 then (-1) else 0)))]) (w1 := [(q17, .inr (2, [.ref q18, .int 0])), (q18, .inr (1, [.ref q19, .ref q20, .ref q21, .ref q22, .ref q23, .int 0, .int 0])), (q19, .inl (cI, 6, .inl (fun _ => 0))), (q20, .inl (cI, 6, .inl (fun _ => 0))), (q21, .inl (cI, 6, .inl (fun _ => 0))), (q22, .inl (cI, 6, .inl (fun _ => 0))), (q23, .inl (cI, 8, .inl (fun _ => 0)))]) hP hD [17] [0, 1, 2, 3, 4, 5, 6, 7, 8, 9, 10, 11, 12, 13, 14, 15, 16] rfl rfl (by decide) (by decide) hk1 hFc hP1 hD1
  generalize H1 = H at hP hS ⊢
  have hPD : kc_PD D A H [(h0, .inr (7, [.ref q1, .ref q10, .null, .null, .null, .null, .null, .null, .null, .null, .null])), (q1, .inr (3, [.int 40, .ref q2, .ref q9])), (q2, .inl (cII, 6, .inr (.inr (.inr (.inr (fun j : Nat => ([q3, q4, q5, q6, q7, q8] : List Nat)[j]?)))))), (q3, .inl (cI, 40, .inl (fun _ => 0))), (q4, .inl (cI, 40, .inl (fun _ => 0))), (q5, .inl (cI, 40, .inl (fun _ => 0))), (q6, .inl (cI, 40, .inl (fun _ => 0))), (q7, .inl (cI, 40, .inl (fun _ => 0))), (q8, .inl (cI, 40, .inl (fun _ => 0))), (q9, .inl (cI, 6, .inl (fun j => if j < 6 then (-1) else 0))), (q10, .inr (3, [.int 60, .ref q11, .ref q16])), (q11, .inl (cII, 4, .inr (.inr (.inr (.inr (fun j : Nat => ([q12, q13, q14, q15] : List Nat)[j]?)))))), (q12, .inl (cI, 60, .inl (fun _ => 0))), (q13, .inl (cI, 60, .inl (fun _ => 0))), (q14, .inl (cI, 60, .inl (fun _ => 0))), (q15, .inl (cI, 60, .inl (fun _ => 0))), (q16, .inl (cI, 4, .inl (fun j => if j < 4 then (-1) else 0))), (q17, .inr (2, [.ref q18, .int 0])), (q18, .inr (1, [.ref q19, .ref q20, .ref q21, .ref q22, .ref q23, .int 0, .int 0])), (q19, .inl (cI, 6, .inl (fun _ => 0))), (q20, .inl (cI, 6, .inl (fun _ => 0))), (q21, .inl (cI, 6, .inl (fun _ => 0))), (q22, .inl (cI, 6, .inl (fun _ => 0))), (q23, .inl (cI, 8, .inl (fun _ => 0)))] := ⟨hP, hD⟩
  replace hP := hPD.1
  replace hD := hPD.2
  clear hPD
  refine W.widen (k := 23) (n := 547) (Nat.le_of_ble_eq_true rfl) (Nat.le_of_ble_eq_true rfl) ?_
  refine va_putF (D := D) (ci := 7) (v := .ref q17) (ty := .object "WashSails$Reader") (C := RX7) (T := TX7) (N := 11) hx hb htk inW7 tyX7 tyX7_ok nmX7 hown hK hP hD hS 0 rfl rfl 2 (by decide) (htk _ kfX7_24) (fun _ h9 => h9) rfl hin rfl (by decide +kernel) rfl rfl (Nat.le_of_ble_eq_true rfl) dX7_init_41 (fun H locs hP hD hS => ?_)
  have hPD : kc_PD D A H [(h0, .inr (7, [.ref q1, .ref q10, .ref q17, .null, .null, .null, .null, .null, .null, .null, .null])), (q1, .inr (3, [.int 40, .ref q2, .ref q9])), (q2, .inl (cII, 6, .inr (.inr (.inr (.inr (fun j : Nat => ([q3, q4, q5, q6, q7, q8] : List Nat)[j]?)))))), (q3, .inl (cI, 40, .inl (fun _ => 0))), (q4, .inl (cI, 40, .inl (fun _ => 0))), (q5, .inl (cI, 40, .inl (fun _ => 0))), (q6, .inl (cI, 40, .inl (fun _ => 0))), (q7, .inl (cI, 40, .inl (fun _ => 0))), (q8, .inl (cI, 40, .inl (fun _ => 0))), (q9, .inl (cI, 6, .inl (fun j => if j < 6 then (-1) else 0))), (q10, .inr (3, [.int 60, .ref q11, .ref q16])), (q11, .inl (cII, 4, .inr (.inr (.inr (.inr (fun j : Nat => ([q12, q13, q14, q15] : List Nat)[j]?)))))), (q12, .inl (cI, 60, .inl (fun _ => 0))), (q13, .inl (cI, 60, .inl (fun _ => 0))), (q14, .inl (cI, 60, .inl (fun _ => 0))), (q15, .inl (cI, 60, .inl (fun _ => 0))), (q16, .inl (cI, 4, .inl (fun j => if j < 4 then (-1) else 0))), (q17, .inr (2, [.ref q18, .int 0])), (q18, .inr (1, [.ref q19, .ref q20, .ref q21, .ref q22, .ref q23, .int 0, .int 0])), (q19, .inl (cI, 6, .inl (fun _ => 0))), (q20, .inl (cI, 6, .inl (fun _ => 0))), (q21, .inl (cI, 6, .inl (fun _ => 0))), (q22, .inl (cI, 6, .inl (fun _ => 0))), (q23, .inl (cI, 8, .inl (fun _ => 0)))] := ⟨hP, hD⟩
  replace hP := hPD.1
  replace hD := hPD.2
  clear hPD
  refine lv_aload_n hx hb dX7_init_44 rfl (lv_at hl 0 rfl) ?_
  refine va_new (ci := 5) (fs := [.null, .null, .null, .int 0, .int 0, .int 0, .int 0, .int 0]) (C := RX5) (T := TX5) (N := 8) hx hb htk inW5 tyX5 tyX5_ok hown (htk _ kcX7_28) (htk _ wKX5) (htk _ wNX5) hK hP hD hS hA rfl (fun j hj => by rcases (show j = 0 ∨ j = 1 ∨ j = 2 ∨ j = 3 ∨ j = 4 ∨ j = 5 ∨ j = 6 ∨ j = 7 by omega) with rfl | rfl | rfl | rfl | rfl | rfl | rfl | rfl <;> rfl) (Nat.le_of_ble_eq_true rfl) (Nat.le_of_ble_eq_true rfl) dX7_init_45 (fun q24 H hP hD hS => ?_)
  have hPD : kc_PD D A H [(h0, .inr (7, [.ref q1, .ref q10, .ref q17, .null, .null, .null, .null, .null, .null, .null, .null])), (q1, .inr (3, [.int 40, .ref q2, .ref q9])), (q2, .inl (cII, 6, .inr (.inr (.inr (.inr (fun j : Nat => ([q3, q4, q5, q6, q7, q8] : List Nat)[j]?)))))), (q3, .inl (cI, 40, .inl (fun _ => 0))), (q4, .inl (cI, 40, .inl (fun _ => 0))), (q5, .inl (cI, 40, .inl (fun _ => 0))), (q6, .inl (cI, 40, .inl (fun _ => 0))), (q7, .inl (cI, 40, .inl (fun _ => 0))), (q8, .inl (cI, 40, .inl (fun _ => 0))), (q9, .inl (cI, 6, .inl (fun j => if j < 6 then (-1) else 0))), (q10, .inr (3, [.int 60, .ref q11, .ref q16])), (q11, .inl (cII, 4, .inr (.inr (.inr (.inr (fun j : Nat => ([q12, q13, q14, q15] : List Nat)[j]?)))))), (q12, .inl (cI, 60, .inl (fun _ => 0))), (q13, .inl (cI, 60, .inl (fun _ => 0))), (q14, .inl (cI, 60, .inl (fun _ => 0))), (q15, .inl (cI, 60, .inl (fun _ => 0))), (q16, .inl (cI, 4, .inl (fun j => if j < 4 then (-1) else 0))), (q17, .inr (2, [.ref q18, .int 0])), (q18, .inr (1, [.ref q19, .ref q20, .ref q21, .ref q22, .ref q23, .int 0, .int 0])), (q19, .inl (cI, 6, .inl (fun _ => 0))), (q20, .inl (cI, 6, .inl (fun _ => 0))), (q21, .inl (cI, 6, .inl (fun _ => 0))), (q22, .inl (cI, 6, .inl (fun _ => 0))), (q23, .inl (cI, 8, .inl (fun _ => 0))), (q24, .inr (5, [.null, .null, .null, .int 0, .int 0, .int 0, .int 0, .int 0]))] := ⟨hP, hD⟩
  replace hP := hPD.1
  replace hD := hPD.2
  clear hPD
  refine W.widen (k := 24) (n := 555) (Nat.le_of_ble_eq_true rfl) (Nat.le_of_ble_eq_true rfl) ?_
  refine lv_dup hx hb dX7_init_48 rfl ?_
  have hPc := hP.sub (ws' := [(q24, .inr (5, [.null, .null, .null, .int 0, .int 0, .int 0, .int 0, .int 0]))]) [24] rfl
  have hDc := hD.sub (ws' := [(q24, .inr (5, [.null, .null, .null, .int 0, .int 0, .int 0, .int 0, .int 0]))]) [24] (by decide) rfl
  have hFc := va_free (wc := [(q24, .inr (5, [.null, .null, .null, .int 0, .int 0, .int 0, .int 0, .int 0]))]) hD hS hA [24] rfl
  refine va_callv (va_runIN (b := q24) (As := []) (rest := [.ref q24, .ref h0]) ⟨hx, hb, hml, hown, htk⟩ (k_X5_init l D cI cII cC q24 H.size) ⟨va_cnB (host := "WashSails") 0 htk (kw_good wCX5_init (fun w h => h)) rfl rfl rfl (hSt.1 (RX7, 30, yX5_init) (by decide)) (htk _ wNX5) (by decide +kernel) ⟨Nat.le_of_ble_eq_true rfl, Nat.le_of_ble_eq_true rfl⟩, rfl, htk _ wIX5_init⟩ ⟨kc_blind, fun U hU hW => ⟨rfl, by rw [hU], by rw [hU]; exact hPc, va_K.moved hW.alike hK, hDc.weaken (fun _ _ _ _ => trivial), hSt.next hW⟩⟩ rfl rfl hl.1 rfl (lv_room (Nat.le_of_ble_eq_true rfl)) dX7_init_49 ⟨Nat.le_of_ble_eq_true rfl, Nat.le_of_ble_eq_true rfl⟩) hS (fun q _ h => hFc q h) hFc (fun u t H1 locs ht hvm hw hB hz1 hk1 hS => ?_)
  obtain ⟨q25, q26, q27, q28, q29, q30, q31, q32, hP1, hD1⟩ := hB
  rw [ht] at hP1
  obtain ⟨hP, hD⟩ := va_join (wr := [(h0, .inr (7, [.ref q1, .ref q10, .ref q17, .null, .null, .null, .null, .null, .null, .null, .null])), (q1, .inr (3, [.int 40, .ref q2, .ref q9])), (q2, .inl (cII, 6, .inr (.inr (.inr (.inr (fun j : Nat => ([q3, q4, q5, q6, q7, q8] : List Nat)[j]?)))))), (q3, .inl (cI, 40, .inl (fun _ => 0))), (q4, .inl (cI, 40, .inl (fun _ => 0))), (q5, .inl (cI, 40, .inl (fun _ => 0))), (q6, .inl (cI, 40, .inl (fun _ => 0))), (q7, .inl (cI, 40, .inl (fun _ => 0))), (q8, .inl (cI, 40, .inl (fun _ => 0))), (q9, .inl (cI, 6, .inl (fun j => if j < 6 then (-1) else 0))), (q10, .inr (3, [.int 60, .ref q11, .ref q16])), (q11, .inl (cII, 4, .inr (.inr (.inr (.inr (fun j : Nat => ([q12, q13, q14, q15] : List Nat)[j]?)))))), (q12, .inl (cI, 60, .inl (fun _ => 0))), (q13, .inl (cI, 60, .inl (fun _ => 0))), (q14, .inl (cI, 60, .inl (fun _ => 0))), (q15, .inl (cI, 60, .inl (fun _ => 0))), (q16, .inl (cI, 4, .inl (fun j => if j < 4 then (-1) else 0))), (q17, .inr (2, [.ref q18, .int 0])), (q18, .inr (1, [.ref q19, .ref q20, .ref q21, .ref q22, .ref q23, .int 0, .int 0])), (q19, .inl (cI, 6, .inl (fun _ => 0))), (q20, .inl (cI, 6, .inl (fun _ => 0))), (q21, .inl (cI, 6, .inl (fun _ => 0))), (q22, .inl (cI, 6, .inl (fun _ => 0))), (q23, .inl (cI, 8, .inl (fun _ => 0)))]) (w1 := [(q24, .inr (5, [.ref q25, .ref q31, .ref q32, .int 0, .int 0, .int 0, .int 0, .int 0])), (q25, .inr (1, [.ref q26, .ref q27, .ref q28, .ref q29, .ref q30, .int 0, .int 0])), (q26, .inl (cI, 6, .inl (fun _ => 0))), (q27, .inl (cI, 6, .inl (fun _ => 0))), (q28, .inl (cI, 6, .inl (fun _ => 0))), (q29, .inl (cI, 6, .inl (fun _ => 0))), (q30, .inl (cI, 8, .inl (fun _ => 0))), (q31, .inl (cI, 40, .inl (fun _ => 0))), (q32, .inl (cI, 6, .inl (fun _ => 0)))]) hP hD [24] [0, 1, 2, 3, 4, 5, 6, 7, 8, 9, 10, 11, 12, 13, 14, 15, 16, 17, 18, 19, 20, 21, 22, 23] rfl rfl (by decide) (by decide) hk1 hFc hP1 hD1
  generalize H1 = H at hP hS ⊢
  have hPD : kc_PD D A H [(h0, .inr (7, [.ref q1, .ref q10, .ref q17, .null, .null, .null, .null, .null, .null, .null, .null])), (q1, .inr (3, [.int 40, .ref q2, .ref q9])), (q2, .inl (cII, 6, .inr (.inr (.inr (.inr (fun j : Nat => ([q3, q4, q5, q6, q7, q8] : List Nat)[j]?)))))), (q3, .inl (cI, 40, .inl (fun _ => 0))), (q4, .inl (cI, 40, .inl (fun _ => 0))), (q5, .inl (cI, 40, .inl (fun _ => 0))), (q6, .inl (cI, 40, .inl (fun _ => 0))), (q7, .inl (cI, 40, .inl (fun _ => 0))), (q8, .inl (cI, 40, .inl (fun _ => 0))), (q9, .inl (cI, 6, .inl (fun j => if j < 6 then (-1) else 0))), (q10, .inr (3, [.int 60, .ref q11, .ref q16])), (q11, .inl (cII, 4, .inr (.inr (.inr (.inr (fun j : Nat => ([q12, q13, q14, q15] : List Nat)[j]?)))))), (q12, .inl (cI, 60, .inl (fun _ => 0))), (q13, .inl (cI, 60, .inl (fun _ => 0))), (q14, .inl (cI, 60, .inl (fun _ => 0))), (q15, .inl (cI, 60, .inl (fun _ => 0))), (q16, .inl (cI, 4, .inl (fun j => if j < 4 then (-1) else 0))), (q17, .inr (2, [.ref q18, .int 0])), (q18, .inr (1, [.ref q19, .ref q20, .ref q21, .ref q22, .ref q23, .int 0, .int 0])), (q19, .inl (cI, 6, .inl (fun _ => 0))), (q20, .inl (cI, 6, .inl (fun _ => 0))), (q21, .inl (cI, 6, .inl (fun _ => 0))), (q22, .inl (cI, 6, .inl (fun _ => 0))), (q23, .inl (cI, 8, .inl (fun _ => 0))), (q24, .inr (5, [.ref q25, .ref q31, .ref q32, .int 0, .int 0, .int 0, .int 0, .int 0])), (q25, .inr (1, [.ref q26, .ref q27, .ref q28, .ref q29, .ref q30, .int 0, .int 0])), (q26, .inl (cI, 6, .inl (fun _ => 0))), (q27, .inl (cI, 6, .inl (fun _ => 0))), (q28, .inl (cI, 6, .inl (fun _ => 0))), (q29, .inl (cI, 6, .inl (fun _ => 0))), (q30, .inl (cI, 8, .inl (fun _ => 0))), (q31, .inl (cI, 40, .inl (fun _ => 0))), (q32, .inl (cI, 6, .inl (fun _ => 0)))] := ⟨hP, hD⟩
  replace hP := hPD.1
  replace hD := hPD.2
  clear hPD
  refine W.widen (k := 32) (n := 640) (Nat.le_of_ble_eq_true rfl) (Nat.le_of_ble_eq_true rfl) ?_
  refine va_putF (D := D) (ci := 7) (v := .ref q24) (ty := .object "WashSails$Town") (C := RX7) (T := TX7) (N := 11) hx hb htk inW7 tyX7 tyX7_ok nmX7 hown hK hP hD hS 0 rfl rfl 3 (by decide) (htk _ kfX7_31) (fun _ h9 => h9) rfl hin rfl (by decide +kernel) rfl rfl (Nat.le_of_ble_eq_true rfl) dX7_init_52 (fun H locs hP hD hS => ?_)
  have hPD : kc_PD D A H [(h0, .inr (7, [.ref q1, .ref q10, .ref q17, .ref q24, .null, .null, .null, .null, .null, .null, .null])), (q1, .inr (3, [.int 40, .ref q2, .ref q9])), (q2, .inl (cII, 6, .inr (.inr (.inr (.inr (fun j : Nat => ([q3, q4, q5, q6, q7, q8] : List Nat)[j]?)))))), (q3, .inl (cI, 40, .inl (fun _ => 0))), (q4, .inl (cI, 40, .inl (fun _ => 0))), (q5, .inl (cI, 40, .inl (fun _ => 0))), (q6, .inl (cI, 40, .inl (fun _ => 0))), (q7, .inl (cI, 40, .inl (fun _ => 0))), (q8, .inl (cI, 40, .inl (fun _ => 0))), (q9, .inl (cI, 6, .inl (fun j => if j < 6 then (-1) else 0))), (q10, .inr (3, [.int 60, .ref q11, .ref q16])), (q11, .inl (cII, 4, .inr (.inr (.inr (.inr (fun j : Nat => ([q12, q13, q14, q15] : List Nat)[j]?)))))), (q12, .inl (cI, 60, .inl (fun _ => 0))), (q13, .inl (cI, 60, .inl (fun _ => 0))), (q14, .inl (cI, 60, .inl (fun _ => 0))), (q15, .inl (cI, 60, .inl (fun _ => 0))), (q16, .inl (cI, 4, .inl (fun j => if j < 4 then (-1) else 0))), (q17, .inr (2, [.ref q18, .int 0])), (q18, .inr (1, [.ref q19, .ref q20, .ref q21, .ref q22, .ref q23, .int 0, .int 0])), (q19, .inl (cI, 6, .inl (fun _ => 0))), (q20, .inl (cI, 6, .inl (fun _ => 0))), (q21, .inl (cI, 6, .inl (fun _ => 0))), (q22, .inl (cI, 6, .inl (fun _ => 0))), (q23, .inl (cI, 8, .inl (fun _ => 0))), (q24, .inr (5, [.ref q25, .ref q31, .ref q32, .int 0, .int 0, .int 0, .int 0, .int 0])), (q25, .inr (1, [.ref q26, .ref q27, .ref q28, .ref q29, .ref q30, .int 0, .int 0])), (q26, .inl (cI, 6, .inl (fun _ => 0))), (q27, .inl (cI, 6, .inl (fun _ => 0))), (q28, .inl (cI, 6, .inl (fun _ => 0))), (q29, .inl (cI, 6, .inl (fun _ => 0))), (q30, .inl (cI, 8, .inl (fun _ => 0))), (q31, .inl (cI, 40, .inl (fun _ => 0))), (q32, .inl (cI, 6, .inl (fun _ => 0)))] := ⟨hP, hD⟩
  replace hP := hPD.1
  replace hD := hPD.2
  clear hPD
  refine lv_aload_n hx hb dX7_init_55 rfl (lv_at hl 0 rfl) ?_
  refine va_new (ci := 3) (fs := [.int 0, .null, .null]) (C := RX3) (T := TX3) (N := 3) hx hb htk inW3 tyX3 tyX3_ok hown (htk _ kcX7_9) (htk _ wKX3) (htk _ wNX3) hK hP hD hS hA rfl (fun j hj => by rcases (show j = 0 ∨ j = 1 ∨ j = 2 by omega) with rfl | rfl | rfl <;> rfl) (Nat.le_of_ble_eq_true rfl) (Nat.le_of_ble_eq_true rfl) dX7_init_56 (fun q33 H hP hD hS => ?_)
  have hPD : kc_PD D A H [(h0, .inr (7, [.ref q1, .ref q10, .ref q17, .ref q24, .null, .null, .null, .null, .null, .null, .null])), (q1, .inr (3, [.int 40, .ref q2, .ref q9])), (q2, .inl (cII, 6, .inr (.inr (.inr (.inr (fun j : Nat => ([q3, q4, q5, q6, q7, q8] : List Nat)[j]?)))))), (q3, .inl (cI, 40, .inl (fun _ => 0))), (q4, .inl (cI, 40, .inl (fun _ => 0))), (q5, .inl (cI, 40, .inl (fun _ => 0))), (q6, .inl (cI, 40, .inl (fun _ => 0))), (q7, .inl (cI, 40, .inl (fun _ => 0))), (q8, .inl (cI, 40, .inl (fun _ => 0))), (q9, .inl (cI, 6, .inl (fun j => if j < 6 then (-1) else 0))), (q10, .inr (3, [.int 60, .ref q11, .ref q16])), (q11, .inl (cII, 4, .inr (.inr (.inr (.inr (fun j : Nat => ([q12, q13, q14, q15] : List Nat)[j]?)))))), (q12, .inl (cI, 60, .inl (fun _ => 0))), (q13, .inl (cI, 60, .inl (fun _ => 0))), (q14, .inl (cI, 60, .inl (fun _ => 0))), (q15, .inl (cI, 60, .inl (fun _ => 0))), (q16, .inl (cI, 4, .inl (fun j => if j < 4 then (-1) else 0))), (q17, .inr (2, [.ref q18, .int 0])), (q18, .inr (1, [.ref q19, .ref q20, .ref q21, .ref q22, .ref q23, .int 0, .int 0])), (q19, .inl (cI, 6, .inl (fun _ => 0))), (q20, .inl (cI, 6, .inl (fun _ => 0))), (q21, .inl (cI, 6, .inl (fun _ => 0))), (q22, .inl (cI, 6, .inl (fun _ => 0))), (q23, .inl (cI, 8, .inl (fun _ => 0))), (q24, .inr (5, [.ref q25, .ref q31, .ref q32, .int 0, .int 0, .int 0, .int 0, .int 0])), (q25, .inr (1, [.ref q26, .ref q27, .ref q28, .ref q29, .ref q30, .int 0, .int 0])), (q26, .inl (cI, 6, .inl (fun _ => 0))), (q27, .inl (cI, 6, .inl (fun _ => 0))), (q28, .inl (cI, 6, .inl (fun _ => 0))), (q29, .inl (cI, 6, .inl (fun _ => 0))), (q30, .inl (cI, 8, .inl (fun _ => 0))), (q31, .inl (cI, 40, .inl (fun _ => 0))), (q32, .inl (cI, 6, .inl (fun _ => 0))), (q33, .inr (3, [.int 0, .null, .null]))] := ⟨hP, hD⟩
  replace hP := hPD.1
  replace hD := hPD.2
  clear hPD
  refine W.widen (k := 33) (n := 643) (Nat.le_of_ble_eq_true rfl) (Nat.le_of_ble_eq_true rfl) ?_
  refine lv_dup hx hb dX7_init_59 rfl ?_
  refine lv_iconst (v := 3) hx hb dX7_init_60 (by decide) ?_
  refine lv_bipush (v := 40) hx hb dX7_init_61 (by decide) ?_
  have hPc := hP.sub (ws' := [(q33, .inr (3, [.int 0, .null, .null]))]) [33] rfl
  have hDc := hD.sub (ws' := [(q33, .inr (3, [.int 0, .null, .null]))]) [33] (by decide) rfl
  have hFc := va_free (wc := [(q33, .inr (3, [.int 0, .null, .null]))]) hD hS hA [33] rfl
  refine va_callv (va_runI (b := q33) (As := [.int 3, .int 40]) (rest := [.ref q33, .ref h0]) ⟨hx, hb, hml, hown, htk⟩ (k_X3_init_3_40 l D cI cII cC q33 H.size) (cwI 2 htk (kw_good wCX3_init (fun w h => h)) rfl rfl rfl (htk _ wNX3) (htk _ kmX7_11) (htk _ wIX3_init) rfl (by decide +kernel) ⟨Nat.le_of_ble_eq_true rfl, Nat.le_of_ble_eq_true rfl⟩) ⟨kc_blind, fun U hU hW => ⟨rfl, by rw [hU], by rw [hU]; exact hPc, va_K.moved hW.alike hK, hDc.weaken (fun _ _ _ _ => trivial), hSt.next hW⟩⟩ rfl rfl hl.1 rfl (lv_room (Nat.le_of_ble_eq_true rfl)) dX7_init_63 ⟨Nat.le_of_ble_eq_true rfl, Nat.le_of_ble_eq_true rfl⟩) hS (fun q _ h => hFc q h) hFc (fun u t H1 locs ht hvm hw hB hz1 hk1 hS => ?_)
  obtain ⟨q34, q35, q36, q37, q38, hP1, hD1⟩ := hB
  rw [ht] at hP1
  obtain ⟨hP, hD⟩ := va_join (wr := [(h0, .inr (7, [.ref q1, .ref q10, .ref q17, .ref q24, .null, .null, .null, .null, .null, .null, .null])), (q1, .inr (3, [.int 40, .ref q2, .ref q9])), (q2, .inl (cII, 6, .inr (.inr (.inr (.inr (fun j : Nat => ([q3, q4, q5, q6, q7, q8] : List Nat)[j]?)))))), (q3, .inl (cI, 40, .inl (fun _ => 0))), (q4, .inl (cI, 40, .inl (fun _ => 0))), (q5, .inl (cI, 40, .inl (fun _ => 0))), (q6, .inl (cI, 40, .inl (fun _ => 0))), (q7, .inl (cI, 40, .inl (fun _ => 0))), (q8, .inl (cI, 40, .inl (fun _ => 0))), (q9, .inl (cI, 6, .inl (fun j => if j < 6 then (-1) else 0))), (q10, .inr (3, [.int 60, .ref q11, .ref q16])), (q11, .inl (cII, 4, .inr (.inr (.inr (.inr (fun j : Nat => ([q12, q13, q14, q15] : List Nat)[j]?)))))), (q12, .inl (cI, 60, .inl (fun _ => 0))), (q13, .inl (cI, 60, .inl (fun _ => 0))), (q14, .inl (cI, 60, .inl (fun _ => 0))), (q15, .inl (cI, 60, .inl (fun _ => 0))), (q16, .inl (cI, 4, .inl (fun j => if j < 4 then (-1) else 0))), (q17, .inr (2, [.ref q18, .int 0])), (q18, .inr (1, [.ref q19, .ref q20, .ref q21, .ref q22, .ref q23, .int 0, .int 0])), (q19, .inl (cI, 6, .inl (fun _ => 0))), (q20, .inl (cI, 6, .inl (fun _ => 0))), (q21, .inl (cI, 6, .inl (fun _ => 0))), (q22, .inl (cI, 6, .inl (fun _ => 0))), (q23, .inl (cI, 8, .inl (fun _ => 0))), (q24, .inr (5, [.ref q25, .ref q31, .ref q32, .int 0, .int 0, .int 0, .int 0, .int 0])), (q25, .inr (1, [.ref q26, .ref q27, .ref q28, .ref q29, .ref q30, .int 0, .int 0])), (q26, .inl (cI, 6, .inl (fun _ => 0))), (q27, .inl (cI, 6, .inl (fun _ => 0))), (q28, .inl (cI, 6, .inl (fun _ => 0))), (q29, .inl (cI, 6, .inl (fun _ => 0))), (q30, .inl (cI, 8, .inl (fun _ => 0))), (q31, .inl (cI, 40, .inl (fun _ => 0))), (q32, .inl (cI, 6, .inl (fun _ => 0)))]) (w1 := [(q33, .inr (3, [.int 40, .ref q34, .ref q38])), (q34, .inl (cII, 3, .inr (.inr (.inr (.inr (fun j : Nat => ([q35, q36, q37] : List Nat)[j]?)))))), (q35, .inl (cI, 40, .inl (fun _ => 0))), (q36, .inl (cI, 40, .inl (fun _ => 0))), (q37, .inl (cI, 40, .inl (fun _ => 0))), (q38, .inl (cI, 3, .inl (fun j => if j < 3 then (-1) else 0)))]) hP hD [33] [0, 1, 2, 3, 4, 5, 6, 7, 8, 9, 10, 11, 12, 13, 14, 15, 16, 17, 18, 19, 20, 21, 22, 23, 24, 25, 26, 27, 28, 29, 30, 31, 32] rfl rfl (by decide) (by decide) hk1 hFc hP1 hD1
  generalize H1 = H at hP hS ⊢
  have hPD : kc_PD D A H [(h0, .inr (7, [.ref q1, .ref q10, .ref q17, .ref q24, .null, .null, .null, .null, .null, .null, .null])), (q1, .inr (3, [.int 40, .ref q2, .ref q9])), (q2, .inl (cII, 6, .inr (.inr (.inr (.inr (fun j : Nat => ([q3, q4, q5, q6, q7, q8] : List Nat)[j]?)))))), (q3, .inl (cI, 40, .inl (fun _ => 0))), (q4, .inl (cI, 40, .inl (fun _ => 0))), (q5, .inl (cI, 40, .inl (fun _ => 0))), (q6, .inl (cI, 40, .inl (fun _ => 0))), (q7, .inl (cI, 40, .inl (fun _ => 0))), (q8, .inl (cI, 40, .inl (fun _ => 0))), (q9, .inl (cI, 6, .inl (fun j => if j < 6 then (-1) else 0))), (q10, .inr (3, [.int 60, .ref q11, .ref q16])), (q11, .inl (cII, 4, .inr (.inr (.inr (.inr (fun j : Nat => ([q12, q13, q14, q15] : List Nat)[j]?)))))), (q12, .inl (cI, 60, .inl (fun _ => 0))), (q13, .inl (cI, 60, .inl (fun _ => 0))), (q14, .inl (cI, 60, .inl (fun _ => 0))), (q15, .inl (cI, 60, .inl (fun _ => 0))), (q16, .inl (cI, 4, .inl (fun j => if j < 4 then (-1) else 0))), (q17, .inr (2, [.ref q18, .int 0])), (q18, .inr (1, [.ref q19, .ref q20, .ref q21, .ref q22, .ref q23, .int 0, .int 0])), (q19, .inl (cI, 6, .inl (fun _ => 0))), (q20, .inl (cI, 6, .inl (fun _ => 0))), (q21, .inl (cI, 6, .inl (fun _ => 0))), (q22, .inl (cI, 6, .inl (fun _ => 0))), (q23, .inl (cI, 8, .inl (fun _ => 0))), (q24, .inr (5, [.ref q25, .ref q31, .ref q32, .int 0, .int 0, .int 0, .int 0, .int 0])), (q25, .inr (1, [.ref q26, .ref q27, .ref q28, .ref q29, .ref q30, .int 0, .int 0])), (q26, .inl (cI, 6, .inl (fun _ => 0))), (q27, .inl (cI, 6, .inl (fun _ => 0))), (q28, .inl (cI, 6, .inl (fun _ => 0))), (q29, .inl (cI, 6, .inl (fun _ => 0))), (q30, .inl (cI, 8, .inl (fun _ => 0))), (q31, .inl (cI, 40, .inl (fun _ => 0))), (q32, .inl (cI, 6, .inl (fun _ => 0))), (q33, .inr (3, [.int 40, .ref q34, .ref q38])), (q34, .inl (cII, 3, .inr (.inr (.inr (.inr (fun j : Nat => ([q35, q36, q37] : List Nat)[j]?)))))), (q35, .inl (cI, 40, .inl (fun _ => 0))), (q36, .inl (cI, 40, .inl (fun _ => 0))), (q37, .inl (cI, 40, .inl (fun _ => 0))), (q38, .inl (cI, 3, .inl (fun j => if j < 3 then (-1) else 0)))] := ⟨hP, hD⟩
  replace hP := hPD.1
  replace hD := hPD.2
  clear hPD
  refine W.widen (k := 38) (n := 769) (Nat.le_of_ble_eq_true rfl) (Nat.le_of_ble_eq_true rfl) ?_
  refine va_putF (D := D) (ci := 7) (v := .ref q33) (ty := .object "WashSails$Shelf") (C := RX7) (T := TX7) (N := 11) hx hb htk inW7 tyX7 tyX7_ok nmX7 hown hK hP hD hS 0 rfl rfl 4 (by decide) (htk _ kfX7_35) (fun _ h9 => h9) rfl hin rfl (by decide +kernel) rfl rfl (Nat.le_of_ble_eq_true rfl) dX7_init_66 (fun H locs hP hD hS => ?_)
  have hPD : kc_PD D A H [(h0, .inr (7, [.ref q1, .ref q10, .ref q17, .ref q24, .ref q33, .null, .null, .null, .null, .null, .null])), (q1, .inr (3, [.int 40, .ref q2, .ref q9])), (q2, .inl (cII, 6, .inr (.inr (.inr (.inr (fun j : Nat => ([q3, q4, q5, q6, q7, q8] : List Nat)[j]?)))))), (q3, .inl (cI, 40, .inl (fun _ => 0))), (q4, .inl (cI, 40, .inl (fun _ => 0))), (q5, .inl (cI, 40, .inl (fun _ => 0))), (q6, .inl (cI, 40, .inl (fun _ => 0))), (q7, .inl (cI, 40, .inl (fun _ => 0))), (q8, .inl (cI, 40, .inl (fun _ => 0))), (q9, .inl (cI, 6, .inl (fun j => if j < 6 then (-1) else 0))), (q10, .inr (3, [.int 60, .ref q11, .ref q16])), (q11, .inl (cII, 4, .inr (.inr (.inr (.inr (fun j : Nat => ([q12, q13, q14, q15] : List Nat)[j]?)))))), (q12, .inl (cI, 60, .inl (fun _ => 0))), (q13, .inl (cI, 60, .inl (fun _ => 0))), (q14, .inl (cI, 60, .inl (fun _ => 0))), (q15, .inl (cI, 60, .inl (fun _ => 0))), (q16, .inl (cI, 4, .inl (fun j => if j < 4 then (-1) else 0))), (q17, .inr (2, [.ref q18, .int 0])), (q18, .inr (1, [.ref q19, .ref q20, .ref q21, .ref q22, .ref q23, .int 0, .int 0])), (q19, .inl (cI, 6, .inl (fun _ => 0))), (q20, .inl (cI, 6, .inl (fun _ => 0))), (q21, .inl (cI, 6, .inl (fun _ => 0))), (q22, .inl (cI, 6, .inl (fun _ => 0))), (q23, .inl (cI, 8, .inl (fun _ => 0))), (q24, .inr (5, [.ref q25, .ref q31, .ref q32, .int 0, .int 0, .int 0, .int 0, .int 0])), (q25, .inr (1, [.ref q26, .ref q27, .ref q28, .ref q29, .ref q30, .int 0, .int 0])), (q26, .inl (cI, 6, .inl (fun _ => 0))), (q27, .inl (cI, 6, .inl (fun _ => 0))), (q28, .inl (cI, 6, .inl (fun _ => 0))), (q29, .inl (cI, 6, .inl (fun _ => 0))), (q30, .inl (cI, 8, .inl (fun _ => 0))), (q31, .inl (cI, 40, .inl (fun _ => 0))), (q32, .inl (cI, 6, .inl (fun _ => 0))), (q33, .inr (3, [.int 40, .ref q34, .ref q38])), (q34, .inl (cII, 3, .inr (.inr (.inr (.inr (fun j : Nat => ([q35, q36, q37] : List Nat)[j]?)))))), (q35, .inl (cI, 40, .inl (fun _ => 0))), (q36, .inl (cI, 40, .inl (fun _ => 0))), (q37, .inl (cI, 40, .inl (fun _ => 0))), (q38, .inl (cI, 3, .inl (fun j => if j < 3 then (-1) else 0)))] := ⟨hP, hD⟩
  replace hP := hPD.1
  replace hD := hPD.2
  clear hPD
  refine lv_aload_n hx hb dX7_init_69 rfl (lv_at hl 0 rfl) ?_
  refine va_new (ci := 0) (fs := [.null, .null, .int 0, .int 0]) (C := RX0) (T := TX0) (N := 4) hx hb htk inW0 tyX0 tyX0_ok hown (htk _ kcX7_38) (htk _ wKX0) (htk _ wNX0) hK hP hD hS hA rfl (fun j hj => by rcases (show j = 0 ∨ j = 1 ∨ j = 2 ∨ j = 3 by omega) with rfl | rfl | rfl | rfl <;> rfl) (Nat.le_of_ble_eq_true rfl) (Nat.le_of_ble_eq_true rfl) dX7_init_70 (fun q39 H hP hD hS => ?_)
  have hPD : kc_PD D A H [(h0, .inr (7, [.ref q1, .ref q10, .ref q17, .ref q24, .ref q33, .null, .null, .null, .null, .null, .null])), (q1, .inr (3, [.int 40, .ref q2, .ref q9])), (q2, .inl (cII, 6, .inr (.inr (.inr (.inr (fun j : Nat => ([q3, q4, q5, q6, q7, q8] : List Nat)[j]?)))))), (q3, .inl (cI, 40, .inl (fun _ => 0))), (q4, .inl (cI, 40, .inl (fun _ => 0))), (q5, .inl (cI, 40, .inl (fun _ => 0))), (q6, .inl (cI, 40, .inl (fun _ => 0))), (q7, .inl (cI, 40, .inl (fun _ => 0))), (q8, .inl (cI, 40, .inl (fun _ => 0))), (q9, .inl (cI, 6, .inl (fun j => if j < 6 then (-1) else 0))), (q10, .inr (3, [.int 60, .ref q11, .ref q16])), (q11, .inl (cII, 4, .inr (.inr (.inr (.inr (fun j : Nat => ([q12, q13, q14, q15] : List Nat)[j]?)))))), (q12, .inl (cI, 60, .inl (fun _ => 0))), (q13, .inl (cI, 60, .inl (fun _ => 0))), (q14, .inl (cI, 60, .inl (fun _ => 0))), (q15, .inl (cI, 60, .inl (fun _ => 0))), (q16, .inl (cI, 4, .inl (fun j => if j < 4 then (-1) else 0))), (q17, .inr (2, [.ref q18, .int 0])), (q18, .inr (1, [.ref q19, .ref q20, .ref q21, .ref q22, .ref q23, .int 0, .int 0])), (q19, .inl (cI, 6, .inl (fun _ => 0))), (q20, .inl (cI, 6, .inl (fun _ => 0))), (q21, .inl (cI, 6, .inl (fun _ => 0))), (q22, .inl (cI, 6, .inl (fun _ => 0))), (q23, .inl (cI, 8, .inl (fun _ => 0))), (q24, .inr (5, [.ref q25, .ref q31, .ref q32, .int 0, .int 0, .int 0, .int 0, .int 0])), (q25, .inr (1, [.ref q26, .ref q27, .ref q28, .ref q29, .ref q30, .int 0, .int 0])), (q26, .inl (cI, 6, .inl (fun _ => 0))), (q27, .inl (cI, 6, .inl (fun _ => 0))), (q28, .inl (cI, 6, .inl (fun _ => 0))), (q29, .inl (cI, 6, .inl (fun _ => 0))), (q30, .inl (cI, 8, .inl (fun _ => 0))), (q31, .inl (cI, 40, .inl (fun _ => 0))), (q32, .inl (cI, 6, .inl (fun _ => 0))), (q33, .inr (3, [.int 40, .ref q34, .ref q38])), (q34, .inl (cII, 3, .inr (.inr (.inr (.inr (fun j : Nat => ([q35, q36, q37] : List Nat)[j]?)))))), (q35, .inl (cI, 40, .inl (fun _ => 0))), (q36, .inl (cI, 40, .inl (fun _ => 0))), (q37, .inl (cI, 40, .inl (fun _ => 0))), (q38, .inl (cI, 3, .inl (fun j => if j < 3 then (-1) else 0))), (q39, .inr (0, [.null, .null, .int 0, .int 0]))] := ⟨hP, hD⟩
  replace hP := hPD.1
  replace hD := hPD.2
  clear hPD
  refine W.widen (k := 39) (n := 773) (Nat.le_of_ble_eq_true rfl) (Nat.le_of_ble_eq_true rfl) ?_
  refine lv_dup hx hb dX7_init_73 rfl ?_
  have hPc := hP.sub (ws' := [(q39, .inr (0, [.null, .null, .int 0, .int 0]))]) [39] rfl
  have hDc := hD.sub (ws' := [(q39, .inr (0, [.null, .null, .int 0, .int 0]))]) [39] (by decide) rfl
  have hFc := va_free (wc := [(q39, .inr (0, [.null, .null, .int 0, .int 0]))]) hD hS hA [39] rfl
  refine va_callv (va_runIN (b := q39) (As := []) (rest := [.ref q39, .ref h0]) ⟨hx, hb, hml, hown, htk⟩ (k_X0_init l D cI cII cC q39 H.size) ⟨va_cnB (host := "WashSails") 0 htk (kw_good wCX0_init (fun w h => h)) rfl rfl rfl (hSt.1 (RX7, 40, yX0_init) (by decide)) (htk _ wNX0) (by decide +kernel) ⟨Nat.le_of_ble_eq_true rfl, Nat.le_of_ble_eq_true rfl⟩, rfl, htk _ wIX0_init⟩ ⟨kc_blind, fun U hU hW => ⟨rfl, by rw [hU], by rw [hU]; exact hPc, va_K.moved hW.alike hK, hDc.weaken (fun _ _ _ _ => trivial), hSt.next hW⟩⟩ rfl rfl hl.1 rfl (lv_room (Nat.le_of_ble_eq_true rfl)) dX7_init_74 ⟨Nat.le_of_ble_eq_true rfl, Nat.le_of_ble_eq_true rfl⟩) hS (fun q _ h => hFc q h) hFc (fun u t H1 locs ht hvm hw hB hz1 hk1 hS => ?_)
  obtain ⟨q40, q41, hP1, hD1⟩ := hB
  rw [ht] at hP1
  obtain ⟨hP, hD⟩ := va_join (wr := [(h0, .inr (7, [.ref q1, .ref q10, .ref q17, .ref q24, .ref q33, .null, .null, .null, .null, .null, .null])), (q1, .inr (3, [.int 40, .ref q2, .ref q9])), (q2, .inl (cII, 6, .inr (.inr (.inr (.inr (fun j : Nat => ([q3, q4, q5, q6, q7, q8] : List Nat)[j]?)))))), (q3, .inl (cI, 40, .inl (fun _ => 0))), (q4, .inl (cI, 40, .inl (fun _ => 0))), (q5, .inl (cI, 40, .inl (fun _ => 0))), (q6, .inl (cI, 40, .inl (fun _ => 0))), (q7, .inl (cI, 40, .inl (fun _ => 0))), (q8, .inl (cI, 40, .inl (fun _ => 0))), (q9, .inl (cI, 6, .inl (fun j => if j < 6 then (-1) else 0))), (q10, .inr (3, [.int 60, .ref q11, .ref q16])), (q11, .inl (cII, 4, .inr (.inr (.inr (.inr (fun j : Nat => ([q12, q13, q14, q15] : List Nat)[j]?)))))), (q12, .inl (cI, 60, .inl (fun _ => 0))), (q13, .inl (cI, 60, .inl (fun _ => 0))), (q14, .inl (cI, 60, .inl (fun _ => 0))), (q15, .inl (cI, 60, .inl (fun _ => 0))), (q16, .inl (cI, 4, .inl (fun j => if j < 4 then (-1) else 0))), (q17, .inr (2, [.ref q18, .int 0])), (q18, .inr (1, [.ref q19, .ref q20, .ref q21, .ref q22, .ref q23, .int 0, .int 0])), (q19, .inl (cI, 6, .inl (fun _ => 0))), (q20, .inl (cI, 6, .inl (fun _ => 0))), (q21, .inl (cI, 6, .inl (fun _ => 0))), (q22, .inl (cI, 6, .inl (fun _ => 0))), (q23, .inl (cI, 8, .inl (fun _ => 0))), (q24, .inr (5, [.ref q25, .ref q31, .ref q32, .int 0, .int 0, .int 0, .int 0, .int 0])), (q25, .inr (1, [.ref q26, .ref q27, .ref q28, .ref q29, .ref q30, .int 0, .int 0])), (q26, .inl (cI, 6, .inl (fun _ => 0))), (q27, .inl (cI, 6, .inl (fun _ => 0))), (q28, .inl (cI, 6, .inl (fun _ => 0))), (q29, .inl (cI, 6, .inl (fun _ => 0))), (q30, .inl (cI, 8, .inl (fun _ => 0))), (q31, .inl (cI, 40, .inl (fun _ => 0))), (q32, .inl (cI, 6, .inl (fun _ => 0))), (q33, .inr (3, [.int 40, .ref q34, .ref q38])), (q34, .inl (cII, 3, .inr (.inr (.inr (.inr (fun j : Nat => ([q35, q36, q37] : List Nat)[j]?)))))), (q35, .inl (cI, 40, .inl (fun _ => 0))), (q36, .inl (cI, 40, .inl (fun _ => 0))), (q37, .inl (cI, 40, .inl (fun _ => 0))), (q38, .inl (cI, 3, .inl (fun j => if j < 3 then (-1) else 0)))]) (w1 := [(q39, .inr (0, [.ref q40, .ref q41, .int 0, .int 0])), (q40, .inl (cI, 64, .inl (fun _ => 0))), (q41, .inl (cI, 64, .inl (fun _ => 0)))]) hP hD [39] [0, 1, 2, 3, 4, 5, 6, 7, 8, 9, 10, 11, 12, 13, 14, 15, 16, 17, 18, 19, 20, 21, 22, 23, 24, 25, 26, 27, 28, 29, 30, 31, 32, 33, 34, 35, 36, 37, 38] rfl rfl (by decide) (by decide) hk1 hFc hP1 hD1
  generalize H1 = H at hP hS ⊢
  have hPD : kc_PD D A H [(h0, .inr (7, [.ref q1, .ref q10, .ref q17, .ref q24, .ref q33, .null, .null, .null, .null, .null, .null])), (q1, .inr (3, [.int 40, .ref q2, .ref q9])), (q2, .inl (cII, 6, .inr (.inr (.inr (.inr (fun j : Nat => ([q3, q4, q5, q6, q7, q8] : List Nat)[j]?)))))), (q3, .inl (cI, 40, .inl (fun _ => 0))), (q4, .inl (cI, 40, .inl (fun _ => 0))), (q5, .inl (cI, 40, .inl (fun _ => 0))), (q6, .inl (cI, 40, .inl (fun _ => 0))), (q7, .inl (cI, 40, .inl (fun _ => 0))), (q8, .inl (cI, 40, .inl (fun _ => 0))), (q9, .inl (cI, 6, .inl (fun j => if j < 6 then (-1) else 0))), (q10, .inr (3, [.int 60, .ref q11, .ref q16])), (q11, .inl (cII, 4, .inr (.inr (.inr (.inr (fun j : Nat => ([q12, q13, q14, q15] : List Nat)[j]?)))))), (q12, .inl (cI, 60, .inl (fun _ => 0))), (q13, .inl (cI, 60, .inl (fun _ => 0))), (q14, .inl (cI, 60, .inl (fun _ => 0))), (q15, .inl (cI, 60, .inl (fun _ => 0))), (q16, .inl (cI, 4, .inl (fun j => if j < 4 then (-1) else 0))), (q17, .inr (2, [.ref q18, .int 0])), (q18, .inr (1, [.ref q19, .ref q20, .ref q21, .ref q22, .ref q23, .int 0, .int 0])), (q19, .inl (cI, 6, .inl (fun _ => 0))), (q20, .inl (cI, 6, .inl (fun _ => 0))), (q21, .inl (cI, 6, .inl (fun _ => 0))), (q22, .inl (cI, 6, .inl (fun _ => 0))), (q23, .inl (cI, 8, .inl (fun _ => 0))), (q24, .inr (5, [.ref q25, .ref q31, .ref q32, .int 0, .int 0, .int 0, .int 0, .int 0])), (q25, .inr (1, [.ref q26, .ref q27, .ref q28, .ref q29, .ref q30, .int 0, .int 0])), (q26, .inl (cI, 6, .inl (fun _ => 0))), (q27, .inl (cI, 6, .inl (fun _ => 0))), (q28, .inl (cI, 6, .inl (fun _ => 0))), (q29, .inl (cI, 6, .inl (fun _ => 0))), (q30, .inl (cI, 8, .inl (fun _ => 0))), (q31, .inl (cI, 40, .inl (fun _ => 0))), (q32, .inl (cI, 6, .inl (fun _ => 0))), (q33, .inr (3, [.int 40, .ref q34, .ref q38])), (q34, .inl (cII, 3, .inr (.inr (.inr (.inr (fun j : Nat => ([q35, q36, q37] : List Nat)[j]?)))))), (q35, .inl (cI, 40, .inl (fun _ => 0))), (q36, .inl (cI, 40, .inl (fun _ => 0))), (q37, .inl (cI, 40, .inl (fun _ => 0))), (q38, .inl (cI, 3, .inl (fun j => if j < 3 then (-1) else 0))), (q39, .inr (0, [.ref q40, .ref q41, .int 0, .int 0])), (q40, .inl (cI, 64, .inl (fun _ => 0))), (q41, .inl (cI, 64, .inl (fun _ => 0)))] := ⟨hP, hD⟩
  replace hP := hPD.1
  replace hD := hPD.2
  clear hPD
  refine W.widen (k := 41) (n := 901) (Nat.le_of_ble_eq_true rfl) (Nat.le_of_ble_eq_true rfl) ?_
  refine va_putF (D := D) (ci := 7) (v := .ref q39) (ty := .object "WashSails$Chart") (C := RX7) (T := TX7) (N := 11) hx hb htk inW7 tyX7 tyX7_ok nmX7 hown hK hP hD hS 0 rfl rfl 5 (by decide) (htk _ kfX7_41) (fun _ h9 => h9) rfl hin rfl (by decide +kernel) rfl rfl (Nat.le_of_ble_eq_true rfl) dX7_init_77 (fun H locs hP hD hS => ?_)
  have hPD : kc_PD D A H [(h0, .inr (7, [.ref q1, .ref q10, .ref q17, .ref q24, .ref q33, .ref q39, .null, .null, .null, .null, .null])), (q1, .inr (3, [.int 40, .ref q2, .ref q9])), (q2, .inl (cII, 6, .inr (.inr (.inr (.inr (fun j : Nat => ([q3, q4, q5, q6, q7, q8] : List Nat)[j]?)))))), (q3, .inl (cI, 40, .inl (fun _ => 0))), (q4, .inl (cI, 40, .inl (fun _ => 0))), (q5, .inl (cI, 40, .inl (fun _ => 0))), (q6, .inl (cI, 40, .inl (fun _ => 0))), (q7, .inl (cI, 40, .inl (fun _ => 0))), (q8, .inl (cI, 40, .inl (fun _ => 0))), (q9, .inl (cI, 6, .inl (fun j => if j < 6 then (-1) else 0))), (q10, .inr (3, [.int 60, .ref q11, .ref q16])), (q11, .inl (cII, 4, .inr (.inr (.inr (.inr (fun j : Nat => ([q12, q13, q14, q15] : List Nat)[j]?)))))), (q12, .inl (cI, 60, .inl (fun _ => 0))), (q13, .inl (cI, 60, .inl (fun _ => 0))), (q14, .inl (cI, 60, .inl (fun _ => 0))), (q15, .inl (cI, 60, .inl (fun _ => 0))), (q16, .inl (cI, 4, .inl (fun j => if j < 4 then (-1) else 0))), (q17, .inr (2, [.ref q18, .int 0])), (q18, .inr (1, [.ref q19, .ref q20, .ref q21, .ref q22, .ref q23, .int 0, .int 0])), (q19, .inl (cI, 6, .inl (fun _ => 0))), (q20, .inl (cI, 6, .inl (fun _ => 0))), (q21, .inl (cI, 6, .inl (fun _ => 0))), (q22, .inl (cI, 6, .inl (fun _ => 0))), (q23, .inl (cI, 8, .inl (fun _ => 0))), (q24, .inr (5, [.ref q25, .ref q31, .ref q32, .int 0, .int 0, .int 0, .int 0, .int 0])), (q25, .inr (1, [.ref q26, .ref q27, .ref q28, .ref q29, .ref q30, .int 0, .int 0])), (q26, .inl (cI, 6, .inl (fun _ => 0))), (q27, .inl (cI, 6, .inl (fun _ => 0))), (q28, .inl (cI, 6, .inl (fun _ => 0))), (q29, .inl (cI, 6, .inl (fun _ => 0))), (q30, .inl (cI, 8, .inl (fun _ => 0))), (q31, .inl (cI, 40, .inl (fun _ => 0))), (q32, .inl (cI, 6, .inl (fun _ => 0))), (q33, .inr (3, [.int 40, .ref q34, .ref q38])), (q34, .inl (cII, 3, .inr (.inr (.inr (.inr (fun j : Nat => ([q35, q36, q37] : List Nat)[j]?)))))), (q35, .inl (cI, 40, .inl (fun _ => 0))), (q36, .inl (cI, 40, .inl (fun _ => 0))), (q37, .inl (cI, 40, .inl (fun _ => 0))), (q38, .inl (cI, 3, .inl (fun j => if j < 3 then (-1) else 0))), (q39, .inr (0, [.ref q40, .ref q41, .int 0, .int 0])), (q40, .inl (cI, 64, .inl (fun _ => 0))), (q41, .inl (cI, 64, .inl (fun _ => 0)))] := ⟨hP, hD⟩
  replace hP := hPD.1
  replace hD := hPD.2
  clear hPD
  refine lv_aload_n hx hb dX7_init_80 rfl (lv_at hl 0 rfl) ?_
  refine va_new (ci := 6) (fs := [.null, .int 0, .null, .null, .null, .int 0, .int 0, .int 0]) (C := RX6) (T := TX6) (N := 8) hx hb htk inW6 tyX6 tyX6_ok hown (htk _ kcX7_45) (htk _ wKX6) (htk _ wNX6) hK hP hD hS hA rfl (fun j hj => by rcases (show j = 0 ∨ j = 1 ∨ j = 2 ∨ j = 3 ∨ j = 4 ∨ j = 5 ∨ j = 6 ∨ j = 7 by omega) with rfl | rfl | rfl | rfl | rfl | rfl | rfl | rfl <;> rfl) (Nat.le_of_ble_eq_true rfl) (Nat.le_of_ble_eq_true rfl) dX7_init_81 (fun q42 H hP hD hS => ?_)
  have hPD : kc_PD D A H [(h0, .inr (7, [.ref q1, .ref q10, .ref q17, .ref q24, .ref q33, .ref q39, .null, .null, .null, .null, .null])), (q1, .inr (3, [.int 40, .ref q2, .ref q9])), (q2, .inl (cII, 6, .inr (.inr (.inr (.inr (fun j : Nat => ([q3, q4, q5, q6, q7, q8] : List Nat)[j]?)))))), (q3, .inl (cI, 40, .inl (fun _ => 0))), (q4, .inl (cI, 40, .inl (fun _ => 0))), (q5, .inl (cI, 40, .inl (fun _ => 0))), (q6, .inl (cI, 40, .inl (fun _ => 0))), (q7, .inl (cI, 40, .inl (fun _ => 0))), (q8, .inl (cI, 40, .inl (fun _ => 0))), (q9, .inl (cI, 6, .inl (fun j => if j < 6 then (-1) else 0))), (q10, .inr (3, [.int 60, .ref q11, .ref q16])), (q11, .inl (cII, 4, .inr (.inr (.inr (.inr (fun j : Nat => ([q12, q13, q14, q15] : List Nat)[j]?)))))), (q12, .inl (cI, 60, .inl (fun _ => 0))), (q13, .inl (cI, 60, .inl (fun _ => 0))), (q14, .inl (cI, 60, .inl (fun _ => 0))), (q15, .inl (cI, 60, .inl (fun _ => 0))), (q16, .inl (cI, 4, .inl (fun j => if j < 4 then (-1) else 0))), (q17, .inr (2, [.ref q18, .int 0])), (q18, .inr (1, [.ref q19, .ref q20, .ref q21, .ref q22, .ref q23, .int 0, .int 0])), (q19, .inl (cI, 6, .inl (fun _ => 0))), (q20, .inl (cI, 6, .inl (fun _ => 0))), (q21, .inl (cI, 6, .inl (fun _ => 0))), (q22, .inl (cI, 6, .inl (fun _ => 0))), (q23, .inl (cI, 8, .inl (fun _ => 0))), (q24, .inr (5, [.ref q25, .ref q31, .ref q32, .int 0, .int 0, .int 0, .int 0, .int 0])), (q25, .inr (1, [.ref q26, .ref q27, .ref q28, .ref q29, .ref q30, .int 0, .int 0])), (q26, .inl (cI, 6, .inl (fun _ => 0))), (q27, .inl (cI, 6, .inl (fun _ => 0))), (q28, .inl (cI, 6, .inl (fun _ => 0))), (q29, .inl (cI, 6, .inl (fun _ => 0))), (q30, .inl (cI, 8, .inl (fun _ => 0))), (q31, .inl (cI, 40, .inl (fun _ => 0))), (q32, .inl (cI, 6, .inl (fun _ => 0))), (q33, .inr (3, [.int 40, .ref q34, .ref q38])), (q34, .inl (cII, 3, .inr (.inr (.inr (.inr (fun j : Nat => ([q35, q36, q37] : List Nat)[j]?)))))), (q35, .inl (cI, 40, .inl (fun _ => 0))), (q36, .inl (cI, 40, .inl (fun _ => 0))), (q37, .inl (cI, 40, .inl (fun _ => 0))), (q38, .inl (cI, 3, .inl (fun j => if j < 3 then (-1) else 0))), (q39, .inr (0, [.ref q40, .ref q41, .int 0, .int 0])), (q40, .inl (cI, 64, .inl (fun _ => 0))), (q41, .inl (cI, 64, .inl (fun _ => 0))), (q42, .inr (6, [.null, .int 0, .null, .null, .null, .int 0, .int 0, .int 0]))] := ⟨hP, hD⟩
  replace hP := hPD.1
  replace hD := hPD.2
  clear hPD
  refine W.widen (k := 42) (n := 909) (Nat.le_of_ble_eq_true rfl) (Nat.le_of_ble_eq_true rfl) ?_
  refine lv_dup hx hb dX7_init_84 rfl ?_
  have hPc := hP.sub (ws' := [(q42, .inr (6, [.null, .int 0, .null, .null, .null, .int 0, .int 0, .int 0]))]) [42] rfl
  have hDc := hD.sub (ws' := [(q42, .inr (6, [.null, .int 0, .null, .null, .null, .int 0, .int 0, .int 0]))]) [42] (by decide) rfl
  have hFc := va_free (wc := [(q42, .inr (6, [.null, .int 0, .null, .null, .null, .int 0, .int 0, .int 0]))]) hD hS hA [42] rfl
  refine va_callv (va_runI (b := q42) (As := []) (rest := [.ref q42, .ref h0]) ⟨hx, hb, hml, hown, htk⟩ (k_X6_init l D cI cII cC q42 H.size) (cwI 0 htk (kw_good wCX6_init (fun w h => h)) rfl rfl rfl (htk _ wNX6) (htk _ kmX7_47) (htk _ wIX6_init) rfl (by decide +kernel) ⟨Nat.le_of_ble_eq_true rfl, Nat.le_of_ble_eq_true rfl⟩) ⟨kc_blind, fun U hU hW => ⟨rfl, by rw [hU], by rw [hU]; exact hPc, va_K.moved hW.alike hK, hDc.weaken (fun _ _ _ _ => trivial), hSt.next hW⟩⟩ rfl rfl hl.1 rfl (lv_room (Nat.le_of_ble_eq_true rfl)) dX7_init_85 ⟨Nat.le_of_ble_eq_true rfl, Nat.le_of_ble_eq_true rfl⟩) hS (fun q _ h => hFc q h) hFc (fun u t H1 locs ht hvm hw hB hz1 hk1 hS => ?_)
  obtain ⟨q43, q44, q45, q46, q47, q48, q49, q50, q51, q52, q53, q54, q55, hP1, hD1⟩ := hB
  rw [ht] at hP1
  obtain ⟨hP, hD⟩ := va_join (wr := [(h0, .inr (7, [.ref q1, .ref q10, .ref q17, .ref q24, .ref q33, .ref q39, .null, .null, .null, .null, .null])), (q1, .inr (3, [.int 40, .ref q2, .ref q9])), (q2, .inl (cII, 6, .inr (.inr (.inr (.inr (fun j : Nat => ([q3, q4, q5, q6, q7, q8] : List Nat)[j]?)))))), (q3, .inl (cI, 40, .inl (fun _ => 0))), (q4, .inl (cI, 40, .inl (fun _ => 0))), (q5, .inl (cI, 40, .inl (fun _ => 0))), (q6, .inl (cI, 40, .inl (fun _ => 0))), (q7, .inl (cI, 40, .inl (fun _ => 0))), (q8, .inl (cI, 40, .inl (fun _ => 0))), (q9, .inl (cI, 6, .inl (fun j => if j < 6 then (-1) else 0))), (q10, .inr (3, [.int 60, .ref q11, .ref q16])), (q11, .inl (cII, 4, .inr (.inr (.inr (.inr (fun j : Nat => ([q12, q13, q14, q15] : List Nat)[j]?)))))), (q12, .inl (cI, 60, .inl (fun _ => 0))), (q13, .inl (cI, 60, .inl (fun _ => 0))), (q14, .inl (cI, 60, .inl (fun _ => 0))), (q15, .inl (cI, 60, .inl (fun _ => 0))), (q16, .inl (cI, 4, .inl (fun j => if j < 4 then (-1) else 0))), (q17, .inr (2, [.ref q18, .int 0])), (q18, .inr (1, [.ref q19, .ref q20, .ref q21, .ref q22, .ref q23, .int 0, .int 0])), (q19, .inl (cI, 6, .inl (fun _ => 0))), (q20, .inl (cI, 6, .inl (fun _ => 0))), (q21, .inl (cI, 6, .inl (fun _ => 0))), (q22, .inl (cI, 6, .inl (fun _ => 0))), (q23, .inl (cI, 8, .inl (fun _ => 0))), (q24, .inr (5, [.ref q25, .ref q31, .ref q32, .int 0, .int 0, .int 0, .int 0, .int 0])), (q25, .inr (1, [.ref q26, .ref q27, .ref q28, .ref q29, .ref q30, .int 0, .int 0])), (q26, .inl (cI, 6, .inl (fun _ => 0))), (q27, .inl (cI, 6, .inl (fun _ => 0))), (q28, .inl (cI, 6, .inl (fun _ => 0))), (q29, .inl (cI, 6, .inl (fun _ => 0))), (q30, .inl (cI, 8, .inl (fun _ => 0))), (q31, .inl (cI, 40, .inl (fun _ => 0))), (q32, .inl (cI, 6, .inl (fun _ => 0))), (q33, .inr (3, [.int 40, .ref q34, .ref q38])), (q34, .inl (cII, 3, .inr (.inr (.inr (.inr (fun j : Nat => ([q35, q36, q37] : List Nat)[j]?)))))), (q35, .inl (cI, 40, .inl (fun _ => 0))), (q36, .inl (cI, 40, .inl (fun _ => 0))), (q37, .inl (cI, 40, .inl (fun _ => 0))), (q38, .inl (cI, 3, .inl (fun j => if j < 3 then (-1) else 0))), (q39, .inr (0, [.ref q40, .ref q41, .int 0, .int 0])), (q40, .inl (cI, 64, .inl (fun _ => 0))), (q41, .inl (cI, 64, .inl (fun _ => 0)))]) (w1 := [(q42, .inr (6, [.ref q43, .int 0, .ref q44, .ref q45, .ref q46, .int 0, .int 0, .int 0])), (q43, .inl (cI, 3, .inl (fun _ => 0))), (q44, .inl (cC, 3, .inr (.inr (.inr (.inr (va_up (va_up (va_up (fun _ => none) 0 (some q47)) 1 (some q50)) 2 (some q53))))))), (q45, .inl (cI, 4, .inl (fun _ => 0))), (q46, .inl (cI, 3, .inl (fun _ => 0))), (q47, .inr (0, [.ref q48, .ref q49, .int 0, .int 0])), (q48, .inl (cI, 64, .inl (fun _ => 0))), (q49, .inl (cI, 64, .inl (fun _ => 0))), (q50, .inr (0, [.ref q51, .ref q52, .int 0, .int 0])), (q51, .inl (cI, 64, .inl (fun _ => 0))), (q52, .inl (cI, 64, .inl (fun _ => 0))), (q53, .inr (0, [.ref q54, .ref q55, .int 0, .int 0])), (q54, .inl (cI, 64, .inl (fun _ => 0))), (q55, .inl (cI, 64, .inl (fun _ => 0)))]) hP hD [42] [0, 1, 2, 3, 4, 5, 6, 7, 8, 9, 10, 11, 12, 13, 14, 15, 16, 17, 18, 19, 20, 21, 22, 23, 24, 25, 26, 27, 28, 29, 30, 31, 32, 33, 34, 35, 36, 37, 38, 39, 40, 41] rfl rfl (by decide) (by decide) hk1 hFc hP1 hD1
  generalize H1 = H at hP hS ⊢
  have hPD : kc_PD D A H [(h0, .inr (7, [.ref q1, .ref q10, .ref q17, .ref q24, .ref q33, .ref q39, .null, .null, .null, .null, .null])), (q1, .inr (3, [.int 40, .ref q2, .ref q9])), (q2, .inl (cII, 6, .inr (.inr (.inr (.inr (fun j : Nat => ([q3, q4, q5, q6, q7, q8] : List Nat)[j]?)))))), (q3, .inl (cI, 40, .inl (fun _ => 0))), (q4, .inl (cI, 40, .inl (fun _ => 0))), (q5, .inl (cI, 40, .inl (fun _ => 0))), (q6, .inl (cI, 40, .inl (fun _ => 0))), (q7, .inl (cI, 40, .inl (fun _ => 0))), (q8, .inl (cI, 40, .inl (fun _ => 0))), (q9, .inl (cI, 6, .inl (fun j => if j < 6 then (-1) else 0))), (q10, .inr (3, [.int 60, .ref q11, .ref q16])), (q11, .inl (cII, 4, .inr (.inr (.inr (.inr (fun j : Nat => ([q12, q13, q14, q15] : List Nat)[j]?)))))), (q12, .inl (cI, 60, .inl (fun _ => 0))), (q13, .inl (cI, 60, .inl (fun _ => 0))), (q14, .inl (cI, 60, .inl (fun _ => 0))), (q15, .inl (cI, 60, .inl (fun _ => 0))), (q16, .inl (cI, 4, .inl (fun j => if j < 4 then (-1) else 0))), (q17, .inr (2, [.ref q18, .int 0])), (q18, .inr (1, [.ref q19, .ref q20, .ref q21, .ref q22, .ref q23, .int 0, .int 0])), (q19, .inl (cI, 6, .inl (fun _ => 0))), (q20, .inl (cI, 6, .inl (fun _ => 0))), (q21, .inl (cI, 6, .inl (fun _ => 0))), (q22, .inl (cI, 6, .inl (fun _ => 0))), (q23, .inl (cI, 8, .inl (fun _ => 0))), (q24, .inr (5, [.ref q25, .ref q31, .ref q32, .int 0, .int 0, .int 0, .int 0, .int 0])), (q25, .inr (1, [.ref q26, .ref q27, .ref q28, .ref q29, .ref q30, .int 0, .int 0])), (q26, .inl (cI, 6, .inl (fun _ => 0))), (q27, .inl (cI, 6, .inl (fun _ => 0))), (q28, .inl (cI, 6, .inl (fun _ => 0))), (q29, .inl (cI, 6, .inl (fun _ => 0))), (q30, .inl (cI, 8, .inl (fun _ => 0))), (q31, .inl (cI, 40, .inl (fun _ => 0))), (q32, .inl (cI, 6, .inl (fun _ => 0))), (q33, .inr (3, [.int 40, .ref q34, .ref q38])), (q34, .inl (cII, 3, .inr (.inr (.inr (.inr (fun j : Nat => ([q35, q36, q37] : List Nat)[j]?)))))), (q35, .inl (cI, 40, .inl (fun _ => 0))), (q36, .inl (cI, 40, .inl (fun _ => 0))), (q37, .inl (cI, 40, .inl (fun _ => 0))), (q38, .inl (cI, 3, .inl (fun j => if j < 3 then (-1) else 0))), (q39, .inr (0, [.ref q40, .ref q41, .int 0, .int 0])), (q40, .inl (cI, 64, .inl (fun _ => 0))), (q41, .inl (cI, 64, .inl (fun _ => 0))), (q42, .inr (6, [.ref q43, .int 0, .ref q44, .ref q45, .ref q46, .int 0, .int 0, .int 0])), (q43, .inl (cI, 3, .inl (fun _ => 0))), (q44, .inl (cC, 3, .inr (.inr (.inr (.inr (va_up (va_up (va_up (fun _ => none) 0 (some q47)) 1 (some q50)) 2 (some q53))))))), (q45, .inl (cI, 4, .inl (fun _ => 0))), (q46, .inl (cI, 3, .inl (fun _ => 0))), (q47, .inr (0, [.ref q48, .ref q49, .int 0, .int 0])), (q48, .inl (cI, 64, .inl (fun _ => 0))), (q49, .inl (cI, 64, .inl (fun _ => 0))), (q50, .inr (0, [.ref q51, .ref q52, .int 0, .int 0])), (q51, .inl (cI, 64, .inl (fun _ => 0))), (q52, .inl (cI, 64, .inl (fun _ => 0))), (q53, .inr (0, [.ref q54, .ref q55, .int 0, .int 0])), (q54, .inl (cI, 64, .inl (fun _ => 0))), (q55, .inl (cI, 64, .inl (fun _ => 0)))] := ⟨hP, hD⟩
  replace hP := hPD.1
  replace hD := hPD.2
  clear hPD
  refine W.widen (k := 55) (n := 1318) (Nat.le_of_ble_eq_true rfl) (Nat.le_of_ble_eq_true rfl) ?_
  refine va_putF (D := D) (ci := 7) (v := .ref q42) (ty := .object "WashSails$Voyage") (C := RX7) (T := TX7) (N := 11) hx hb htk inW7 tyX7 tyX7_ok nmX7 hown hK hP hD hS 0 rfl rfl 6 (by decide) (htk _ kfX7_48) (fun _ h9 => h9) rfl hin rfl (by decide +kernel) rfl rfl (Nat.le_of_ble_eq_true rfl) dX7_init_88 (fun H locs hP hD hS => ?_)
  have hPD : kc_PD D A H [(h0, .inr (7, [.ref q1, .ref q10, .ref q17, .ref q24, .ref q33, .ref q39, .ref q42, .null, .null, .null, .null])), (q1, .inr (3, [.int 40, .ref q2, .ref q9])), (q2, .inl (cII, 6, .inr (.inr (.inr (.inr (fun j : Nat => ([q3, q4, q5, q6, q7, q8] : List Nat)[j]?)))))), (q3, .inl (cI, 40, .inl (fun _ => 0))), (q4, .inl (cI, 40, .inl (fun _ => 0))), (q5, .inl (cI, 40, .inl (fun _ => 0))), (q6, .inl (cI, 40, .inl (fun _ => 0))), (q7, .inl (cI, 40, .inl (fun _ => 0))), (q8, .inl (cI, 40, .inl (fun _ => 0))), (q9, .inl (cI, 6, .inl (fun j => if j < 6 then (-1) else 0))), (q10, .inr (3, [.int 60, .ref q11, .ref q16])), (q11, .inl (cII, 4, .inr (.inr (.inr (.inr (fun j : Nat => ([q12, q13, q14, q15] : List Nat)[j]?)))))), (q12, .inl (cI, 60, .inl (fun _ => 0))), (q13, .inl (cI, 60, .inl (fun _ => 0))), (q14, .inl (cI, 60, .inl (fun _ => 0))), (q15, .inl (cI, 60, .inl (fun _ => 0))), (q16, .inl (cI, 4, .inl (fun j => if j < 4 then (-1) else 0))), (q17, .inr (2, [.ref q18, .int 0])), (q18, .inr (1, [.ref q19, .ref q20, .ref q21, .ref q22, .ref q23, .int 0, .int 0])), (q19, .inl (cI, 6, .inl (fun _ => 0))), (q20, .inl (cI, 6, .inl (fun _ => 0))), (q21, .inl (cI, 6, .inl (fun _ => 0))), (q22, .inl (cI, 6, .inl (fun _ => 0))), (q23, .inl (cI, 8, .inl (fun _ => 0))), (q24, .inr (5, [.ref q25, .ref q31, .ref q32, .int 0, .int 0, .int 0, .int 0, .int 0])), (q25, .inr (1, [.ref q26, .ref q27, .ref q28, .ref q29, .ref q30, .int 0, .int 0])), (q26, .inl (cI, 6, .inl (fun _ => 0))), (q27, .inl (cI, 6, .inl (fun _ => 0))), (q28, .inl (cI, 6, .inl (fun _ => 0))), (q29, .inl (cI, 6, .inl (fun _ => 0))), (q30, .inl (cI, 8, .inl (fun _ => 0))), (q31, .inl (cI, 40, .inl (fun _ => 0))), (q32, .inl (cI, 6, .inl (fun _ => 0))), (q33, .inr (3, [.int 40, .ref q34, .ref q38])), (q34, .inl (cII, 3, .inr (.inr (.inr (.inr (fun j : Nat => ([q35, q36, q37] : List Nat)[j]?)))))), (q35, .inl (cI, 40, .inl (fun _ => 0))), (q36, .inl (cI, 40, .inl (fun _ => 0))), (q37, .inl (cI, 40, .inl (fun _ => 0))), (q38, .inl (cI, 3, .inl (fun j => if j < 3 then (-1) else 0))), (q39, .inr (0, [.ref q40, .ref q41, .int 0, .int 0])), (q40, .inl (cI, 64, .inl (fun _ => 0))), (q41, .inl (cI, 64, .inl (fun _ => 0))), (q42, .inr (6, [.ref q43, .int 0, .ref q44, .ref q45, .ref q46, .int 0, .int 0, .int 0])), (q43, .inl (cI, 3, .inl (fun _ => 0))), (q44, .inl (cC, 3, .inr (.inr (.inr (.inr (va_up (va_up (va_up (fun _ => none) 0 (some q47)) 1 (some q50)) 2 (some q53))))))), (q45, .inl (cI, 4, .inl (fun _ => 0))), (q46, .inl (cI, 3, .inl (fun _ => 0))), (q47, .inr (0, [.ref q48, .ref q49, .int 0, .int 0])), (q48, .inl (cI, 64, .inl (fun _ => 0))), (q49, .inl (cI, 64, .inl (fun _ => 0))), (q50, .inr (0, [.ref q51, .ref q52, .int 0, .int 0])), (q51, .inl (cI, 64, .inl (fun _ => 0))), (q52, .inl (cI, 64, .inl (fun _ => 0))), (q53, .inr (0, [.ref q54, .ref q55, .int 0, .int 0])), (q54, .inl (cI, 64, .inl (fun _ => 0))), (q55, .inl (cI, 64, .inl (fun _ => 0)))] := ⟨hP, hD⟩
  replace hP := hPD.1
  replace hD := hPD.2
  clear hPD
  refine lv_aload_n hx hb dX7_init_91 rfl (lv_at hl 0 rfl) ?_
  refine va_new (ci := 4) (fs := [.null, .int 0, .int 0, .long 0, .long 0]) (C := RX4) (T := TX4) (N := 5) hx hb htk inW4 tyX4 tyX4_ok hown (htk _ kcX7_52) (htk _ wKX4) (htk _ wNX4) hK hP hD hS hA rfl (fun j hj => by rcases (show j = 0 ∨ j = 1 ∨ j = 2 ∨ j = 3 ∨ j = 4 by omega) with rfl | rfl | rfl | rfl | rfl <;> rfl) (Nat.le_of_ble_eq_true rfl) (Nat.le_of_ble_eq_true rfl) dX7_init_92 (fun q56 H hP hD hS => ?_)
  have hPD : kc_PD D A H [(h0, .inr (7, [.ref q1, .ref q10, .ref q17, .ref q24, .ref q33, .ref q39, .ref q42, .null, .null, .null, .null])), (q1, .inr (3, [.int 40, .ref q2, .ref q9])), (q2, .inl (cII, 6, .inr (.inr (.inr (.inr (fun j : Nat => ([q3, q4, q5, q6, q7, q8] : List Nat)[j]?)))))), (q3, .inl (cI, 40, .inl (fun _ => 0))), (q4, .inl (cI, 40, .inl (fun _ => 0))), (q5, .inl (cI, 40, .inl (fun _ => 0))), (q6, .inl (cI, 40, .inl (fun _ => 0))), (q7, .inl (cI, 40, .inl (fun _ => 0))), (q8, .inl (cI, 40, .inl (fun _ => 0))), (q9, .inl (cI, 6, .inl (fun j => if j < 6 then (-1) else 0))), (q10, .inr (3, [.int 60, .ref q11, .ref q16])), (q11, .inl (cII, 4, .inr (.inr (.inr (.inr (fun j : Nat => ([q12, q13, q14, q15] : List Nat)[j]?)))))), (q12, .inl (cI, 60, .inl (fun _ => 0))), (q13, .inl (cI, 60, .inl (fun _ => 0))), (q14, .inl (cI, 60, .inl (fun _ => 0))), (q15, .inl (cI, 60, .inl (fun _ => 0))), (q16, .inl (cI, 4, .inl (fun j => if j < 4 then (-1) else 0))), (q17, .inr (2, [.ref q18, .int 0])), (q18, .inr (1, [.ref q19, .ref q20, .ref q21, .ref q22, .ref q23, .int 0, .int 0])), (q19, .inl (cI, 6, .inl (fun _ => 0))), (q20, .inl (cI, 6, .inl (fun _ => 0))), (q21, .inl (cI, 6, .inl (fun _ => 0))), (q22, .inl (cI, 6, .inl (fun _ => 0))), (q23, .inl (cI, 8, .inl (fun _ => 0))), (q24, .inr (5, [.ref q25, .ref q31, .ref q32, .int 0, .int 0, .int 0, .int 0, .int 0])), (q25, .inr (1, [.ref q26, .ref q27, .ref q28, .ref q29, .ref q30, .int 0, .int 0])), (q26, .inl (cI, 6, .inl (fun _ => 0))), (q27, .inl (cI, 6, .inl (fun _ => 0))), (q28, .inl (cI, 6, .inl (fun _ => 0))), (q29, .inl (cI, 6, .inl (fun _ => 0))), (q30, .inl (cI, 8, .inl (fun _ => 0))), (q31, .inl (cI, 40, .inl (fun _ => 0))), (q32, .inl (cI, 6, .inl (fun _ => 0))), (q33, .inr (3, [.int 40, .ref q34, .ref q38])), (q34, .inl (cII, 3, .inr (.inr (.inr (.inr (fun j : Nat => ([q35, q36, q37] : List Nat)[j]?)))))), (q35, .inl (cI, 40, .inl (fun _ => 0))), (q36, .inl (cI, 40, .inl (fun _ => 0))), (q37, .inl (cI, 40, .inl (fun _ => 0))), (q38, .inl (cI, 3, .inl (fun j => if j < 3 then (-1) else 0))), (q39, .inr (0, [.ref q40, .ref q41, .int 0, .int 0])), (q40, .inl (cI, 64, .inl (fun _ => 0))), (q41, .inl (cI, 64, .inl (fun _ => 0))), (q42, .inr (6, [.ref q43, .int 0, .ref q44, .ref q45, .ref q46, .int 0, .int 0, .int 0])), (q43, .inl (cI, 3, .inl (fun _ => 0))), (q44, .inl (cC, 3, .inr (.inr (.inr (.inr (va_up (va_up (va_up (fun _ => none) 0 (some q47)) 1 (some q50)) 2 (some q53))))))), (q45, .inl (cI, 4, .inl (fun _ => 0))), (q46, .inl (cI, 3, .inl (fun _ => 0))), (q47, .inr (0, [.ref q48, .ref q49, .int 0, .int 0])), (q48, .inl (cI, 64, .inl (fun _ => 0))), (q49, .inl (cI, 64, .inl (fun _ => 0))), (q50, .inr (0, [.ref q51, .ref q52, .int 0, .int 0])), (q51, .inl (cI, 64, .inl (fun _ => 0))), (q52, .inl (cI, 64, .inl (fun _ => 0))), (q53, .inr (0, [.ref q54, .ref q55, .int 0, .int 0])), (q54, .inl (cI, 64, .inl (fun _ => 0))), (q55, .inl (cI, 64, .inl (fun _ => 0))), (q56, .inr (4, [.null, .int 0, .int 0, .long 0, .long 0]))] := ⟨hP, hD⟩
  replace hP := hPD.1
  replace hD := hPD.2
  clear hPD
  refine W.widen (k := 56) (n := 1323) (Nat.le_of_ble_eq_true rfl) (Nat.le_of_ble_eq_true rfl) ?_
  refine lv_dup hx hb dX7_init_95 rfl ?_
  have hPc := hP.sub (ws' := [(q56, .inr (4, [.null, .int 0, .int 0, .long 0, .long 0]))]) [56] rfl
  have hDc := hD.sub (ws' := [(q56, .inr (4, [.null, .int 0, .int 0, .long 0, .long 0]))]) [56] (by decide) rfl
  have hFc := va_free (wc := [(q56, .inr (4, [.null, .int 0, .int 0, .long 0, .long 0]))]) hD hS hA [56] rfl
  refine va_callv (va_runIN (b := q56) (As := []) (rest := [.ref q56, .ref h0]) ⟨hx, hb, hml, hown, htk⟩ (k_X4_init l D cI cII cC q56 H.size) ⟨va_cnB (host := "WashSails") 0 htk (kw_good wCX4_init (fun w h => h)) rfl rfl rfl (hSt.1 (RX7, 54, yX4_init) (by decide)) (htk _ wNX4) (by decide +kernel) ⟨Nat.le_of_ble_eq_true rfl, Nat.le_of_ble_eq_true rfl⟩, rfl, htk _ wIX4_init⟩ ⟨kc_blind, fun U hU hW => ⟨rfl, by rw [hU], by rw [hU]; exact hPc, va_K.moved hW.alike hK, hDc.weaken (fun _ _ _ _ => trivial), hSt.next hW⟩⟩ rfl rfl hl.1 rfl (lv_room (Nat.le_of_ble_eq_true rfl)) dX7_init_96 ⟨Nat.le_of_ble_eq_true rfl, Nat.le_of_ble_eq_true rfl⟩) hS (fun q _ h => hFc q h) hFc (fun u t H1 locs ht hvm hw hB hz1 hk1 hS => ?_)
  obtain ⟨q57, hP1, hD1⟩ := hB
  rw [ht] at hP1
  obtain ⟨hP, hD⟩ := va_join (wr := [(h0, .inr (7, [.ref q1, .ref q10, .ref q17, .ref q24, .ref q33, .ref q39, .ref q42, .null, .null, .null, .null])), (q1, .inr (3, [.int 40, .ref q2, .ref q9])), (q2, .inl (cII, 6, .inr (.inr (.inr (.inr (fun j : Nat => ([q3, q4, q5, q6, q7, q8] : List Nat)[j]?)))))), (q3, .inl (cI, 40, .inl (fun _ => 0))), (q4, .inl (cI, 40, .inl (fun _ => 0))), (q5, .inl (cI, 40, .inl (fun _ => 0))), (q6, .inl (cI, 40, .inl (fun _ => 0))), (q7, .inl (cI, 40, .inl (fun _ => 0))), (q8, .inl (cI, 40, .inl (fun _ => 0))), (q9, .inl (cI, 6, .inl (fun j => if j < 6 then (-1) else 0))), (q10, .inr (3, [.int 60, .ref q11, .ref q16])), (q11, .inl (cII, 4, .inr (.inr (.inr (.inr (fun j : Nat => ([q12, q13, q14, q15] : List Nat)[j]?)))))), (q12, .inl (cI, 60, .inl (fun _ => 0))), (q13, .inl (cI, 60, .inl (fun _ => 0))), (q14, .inl (cI, 60, .inl (fun _ => 0))), (q15, .inl (cI, 60, .inl (fun _ => 0))), (q16, .inl (cI, 4, .inl (fun j => if j < 4 then (-1) else 0))), (q17, .inr (2, [.ref q18, .int 0])), (q18, .inr (1, [.ref q19, .ref q20, .ref q21, .ref q22, .ref q23, .int 0, .int 0])), (q19, .inl (cI, 6, .inl (fun _ => 0))), (q20, .inl (cI, 6, .inl (fun _ => 0))), (q21, .inl (cI, 6, .inl (fun _ => 0))), (q22, .inl (cI, 6, .inl (fun _ => 0))), (q23, .inl (cI, 8, .inl (fun _ => 0))), (q24, .inr (5, [.ref q25, .ref q31, .ref q32, .int 0, .int 0, .int 0, .int 0, .int 0])), (q25, .inr (1, [.ref q26, .ref q27, .ref q28, .ref q29, .ref q30, .int 0, .int 0])), (q26, .inl (cI, 6, .inl (fun _ => 0))), (q27, .inl (cI, 6, .inl (fun _ => 0))), (q28, .inl (cI, 6, .inl (fun _ => 0))), (q29, .inl (cI, 6, .inl (fun _ => 0))), (q30, .inl (cI, 8, .inl (fun _ => 0))), (q31, .inl (cI, 40, .inl (fun _ => 0))), (q32, .inl (cI, 6, .inl (fun _ => 0))), (q33, .inr (3, [.int 40, .ref q34, .ref q38])), (q34, .inl (cII, 3, .inr (.inr (.inr (.inr (fun j : Nat => ([q35, q36, q37] : List Nat)[j]?)))))), (q35, .inl (cI, 40, .inl (fun _ => 0))), (q36, .inl (cI, 40, .inl (fun _ => 0))), (q37, .inl (cI, 40, .inl (fun _ => 0))), (q38, .inl (cI, 3, .inl (fun j => if j < 3 then (-1) else 0))), (q39, .inr (0, [.ref q40, .ref q41, .int 0, .int 0])), (q40, .inl (cI, 64, .inl (fun _ => 0))), (q41, .inl (cI, 64, .inl (fun _ => 0))), (q42, .inr (6, [.ref q43, .int 0, .ref q44, .ref q45, .ref q46, .int 0, .int 0, .int 0])), (q43, .inl (cI, 3, .inl (fun _ => 0))), (q44, .inl (cC, 3, .inr (.inr (.inr (.inr (va_up (va_up (va_up (fun _ => none) 0 (some q47)) 1 (some q50)) 2 (some q53))))))), (q45, .inl (cI, 4, .inl (fun _ => 0))), (q46, .inl (cI, 3, .inl (fun _ => 0))), (q47, .inr (0, [.ref q48, .ref q49, .int 0, .int 0])), (q48, .inl (cI, 64, .inl (fun _ => 0))), (q49, .inl (cI, 64, .inl (fun _ => 0))), (q50, .inr (0, [.ref q51, .ref q52, .int 0, .int 0])), (q51, .inl (cI, 64, .inl (fun _ => 0))), (q52, .inl (cI, 64, .inl (fun _ => 0))), (q53, .inr (0, [.ref q54, .ref q55, .int 0, .int 0])), (q54, .inl (cI, 64, .inl (fun _ => 0))), (q55, .inl (cI, 64, .inl (fun _ => 0)))]) (w1 := [(q56, .inr (4, [.ref q57, .int 0, .int 0, .long 0, .long 1])), (q57, .inl (cI, 6, .inl (fun _ => 0)))]) hP hD [56] [0, 1, 2, 3, 4, 5, 6, 7, 8, 9, 10, 11, 12, 13, 14, 15, 16, 17, 18, 19, 20, 21, 22, 23, 24, 25, 26, 27, 28, 29, 30, 31, 32, 33, 34, 35, 36, 37, 38, 39, 40, 41, 42, 43, 44, 45, 46, 47, 48, 49, 50, 51, 52, 53, 54, 55] rfl rfl (by decide) (by decide) hk1 hFc hP1 hD1
  generalize H1 = H at hP hS ⊢
  have hPD : kc_PD D A H [(h0, .inr (7, [.ref q1, .ref q10, .ref q17, .ref q24, .ref q33, .ref q39, .ref q42, .null, .null, .null, .null])), (q1, .inr (3, [.int 40, .ref q2, .ref q9])), (q2, .inl (cII, 6, .inr (.inr (.inr (.inr (fun j : Nat => ([q3, q4, q5, q6, q7, q8] : List Nat)[j]?)))))), (q3, .inl (cI, 40, .inl (fun _ => 0))), (q4, .inl (cI, 40, .inl (fun _ => 0))), (q5, .inl (cI, 40, .inl (fun _ => 0))), (q6, .inl (cI, 40, .inl (fun _ => 0))), (q7, .inl (cI, 40, .inl (fun _ => 0))), (q8, .inl (cI, 40, .inl (fun _ => 0))), (q9, .inl (cI, 6, .inl (fun j => if j < 6 then (-1) else 0))), (q10, .inr (3, [.int 60, .ref q11, .ref q16])), (q11, .inl (cII, 4, .inr (.inr (.inr (.inr (fun j : Nat => ([q12, q13, q14, q15] : List Nat)[j]?)))))), (q12, .inl (cI, 60, .inl (fun _ => 0))), (q13, .inl (cI, 60, .inl (fun _ => 0))), (q14, .inl (cI, 60, .inl (fun _ => 0))), (q15, .inl (cI, 60, .inl (fun _ => 0))), (q16, .inl (cI, 4, .inl (fun j => if j < 4 then (-1) else 0))), (q17, .inr (2, [.ref q18, .int 0])), (q18, .inr (1, [.ref q19, .ref q20, .ref q21, .ref q22, .ref q23, .int 0, .int 0])), (q19, .inl (cI, 6, .inl (fun _ => 0))), (q20, .inl (cI, 6, .inl (fun _ => 0))), (q21, .inl (cI, 6, .inl (fun _ => 0))), (q22, .inl (cI, 6, .inl (fun _ => 0))), (q23, .inl (cI, 8, .inl (fun _ => 0))), (q24, .inr (5, [.ref q25, .ref q31, .ref q32, .int 0, .int 0, .int 0, .int 0, .int 0])), (q25, .inr (1, [.ref q26, .ref q27, .ref q28, .ref q29, .ref q30, .int 0, .int 0])), (q26, .inl (cI, 6, .inl (fun _ => 0))), (q27, .inl (cI, 6, .inl (fun _ => 0))), (q28, .inl (cI, 6, .inl (fun _ => 0))), (q29, .inl (cI, 6, .inl (fun _ => 0))), (q30, .inl (cI, 8, .inl (fun _ => 0))), (q31, .inl (cI, 40, .inl (fun _ => 0))), (q32, .inl (cI, 6, .inl (fun _ => 0))), (q33, .inr (3, [.int 40, .ref q34, .ref q38])), (q34, .inl (cII, 3, .inr (.inr (.inr (.inr (fun j : Nat => ([q35, q36, q37] : List Nat)[j]?)))))), (q35, .inl (cI, 40, .inl (fun _ => 0))), (q36, .inl (cI, 40, .inl (fun _ => 0))), (q37, .inl (cI, 40, .inl (fun _ => 0))), (q38, .inl (cI, 3, .inl (fun j => if j < 3 then (-1) else 0))), (q39, .inr (0, [.ref q40, .ref q41, .int 0, .int 0])), (q40, .inl (cI, 64, .inl (fun _ => 0))), (q41, .inl (cI, 64, .inl (fun _ => 0))), (q42, .inr (6, [.ref q43, .int 0, .ref q44, .ref q45, .ref q46, .int 0, .int 0, .int 0])), (q43, .inl (cI, 3, .inl (fun _ => 0))), (q44, .inl (cC, 3, .inr (.inr (.inr (.inr (va_up (va_up (va_up (fun _ => none) 0 (some q47)) 1 (some q50)) 2 (some q53))))))), (q45, .inl (cI, 4, .inl (fun _ => 0))), (q46, .inl (cI, 3, .inl (fun _ => 0))), (q47, .inr (0, [.ref q48, .ref q49, .int 0, .int 0])), (q48, .inl (cI, 64, .inl (fun _ => 0))), (q49, .inl (cI, 64, .inl (fun _ => 0))), (q50, .inr (0, [.ref q51, .ref q52, .int 0, .int 0])), (q51, .inl (cI, 64, .inl (fun _ => 0))), (q52, .inl (cI, 64, .inl (fun _ => 0))), (q53, .inr (0, [.ref q54, .ref q55, .int 0, .int 0])), (q54, .inl (cI, 64, .inl (fun _ => 0))), (q55, .inl (cI, 64, .inl (fun _ => 0))), (q56, .inr (4, [.ref q57, .int 0, .int 0, .long 0, .long 1])), (q57, .inl (cI, 6, .inl (fun _ => 0)))] := ⟨hP, hD⟩
  replace hP := hPD.1
  replace hD := hPD.2
  clear hPD
  refine W.widen (k := 57) (n := 1329) (Nat.le_of_ble_eq_true rfl) (Nat.le_of_ble_eq_true rfl) ?_
  refine va_putF (D := D) (ci := 7) (v := .ref q56) (ty := .object "WashSails$Told") (C := RX7) (T := TX7) (N := 11) hx hb htk inW7 tyX7 tyX7_ok nmX7 hown hK hP hD hS 0 rfl rfl 7 (by decide) (htk _ kfX7_55) (fun _ h9 => h9) rfl hin rfl (by decide +kernel) rfl rfl (Nat.le_of_ble_eq_true rfl) dX7_init_99 (fun H locs hP hD hS => ?_)
  have hPD : kc_PD D A H [(h0, .inr (7, [.ref q1, .ref q10, .ref q17, .ref q24, .ref q33, .ref q39, .ref q42, .ref q56, .null, .null, .null])), (q1, .inr (3, [.int 40, .ref q2, .ref q9])), (q2, .inl (cII, 6, .inr (.inr (.inr (.inr (fun j : Nat => ([q3, q4, q5, q6, q7, q8] : List Nat)[j]?)))))), (q3, .inl (cI, 40, .inl (fun _ => 0))), (q4, .inl (cI, 40, .inl (fun _ => 0))), (q5, .inl (cI, 40, .inl (fun _ => 0))), (q6, .inl (cI, 40, .inl (fun _ => 0))), (q7, .inl (cI, 40, .inl (fun _ => 0))), (q8, .inl (cI, 40, .inl (fun _ => 0))), (q9, .inl (cI, 6, .inl (fun j => if j < 6 then (-1) else 0))), (q10, .inr (3, [.int 60, .ref q11, .ref q16])), (q11, .inl (cII, 4, .inr (.inr (.inr (.inr (fun j : Nat => ([q12, q13, q14, q15] : List Nat)[j]?)))))), (q12, .inl (cI, 60, .inl (fun _ => 0))), (q13, .inl (cI, 60, .inl (fun _ => 0))), (q14, .inl (cI, 60, .inl (fun _ => 0))), (q15, .inl (cI, 60, .inl (fun _ => 0))), (q16, .inl (cI, 4, .inl (fun j => if j < 4 then (-1) else 0))), (q17, .inr (2, [.ref q18, .int 0])), (q18, .inr (1, [.ref q19, .ref q20, .ref q21, .ref q22, .ref q23, .int 0, .int 0])), (q19, .inl (cI, 6, .inl (fun _ => 0))), (q20, .inl (cI, 6, .inl (fun _ => 0))), (q21, .inl (cI, 6, .inl (fun _ => 0))), (q22, .inl (cI, 6, .inl (fun _ => 0))), (q23, .inl (cI, 8, .inl (fun _ => 0))), (q24, .inr (5, [.ref q25, .ref q31, .ref q32, .int 0, .int 0, .int 0, .int 0, .int 0])), (q25, .inr (1, [.ref q26, .ref q27, .ref q28, .ref q29, .ref q30, .int 0, .int 0])), (q26, .inl (cI, 6, .inl (fun _ => 0))), (q27, .inl (cI, 6, .inl (fun _ => 0))), (q28, .inl (cI, 6, .inl (fun _ => 0))), (q29, .inl (cI, 6, .inl (fun _ => 0))), (q30, .inl (cI, 8, .inl (fun _ => 0))), (q31, .inl (cI, 40, .inl (fun _ => 0))), (q32, .inl (cI, 6, .inl (fun _ => 0))), (q33, .inr (3, [.int 40, .ref q34, .ref q38])), (q34, .inl (cII, 3, .inr (.inr (.inr (.inr (fun j : Nat => ([q35, q36, q37] : List Nat)[j]?)))))), (q35, .inl (cI, 40, .inl (fun _ => 0))), (q36, .inl (cI, 40, .inl (fun _ => 0))), (q37, .inl (cI, 40, .inl (fun _ => 0))), (q38, .inl (cI, 3, .inl (fun j => if j < 3 then (-1) else 0))), (q39, .inr (0, [.ref q40, .ref q41, .int 0, .int 0])), (q40, .inl (cI, 64, .inl (fun _ => 0))), (q41, .inl (cI, 64, .inl (fun _ => 0))), (q42, .inr (6, [.ref q43, .int 0, .ref q44, .ref q45, .ref q46, .int 0, .int 0, .int 0])), (q43, .inl (cI, 3, .inl (fun _ => 0))), (q44, .inl (cC, 3, .inr (.inr (.inr (.inr (va_up (va_up (va_up (fun _ => none) 0 (some q47)) 1 (some q50)) 2 (some q53))))))), (q45, .inl (cI, 4, .inl (fun _ => 0))), (q46, .inl (cI, 3, .inl (fun _ => 0))), (q47, .inr (0, [.ref q48, .ref q49, .int 0, .int 0])), (q48, .inl (cI, 64, .inl (fun _ => 0))), (q49, .inl (cI, 64, .inl (fun _ => 0))), (q50, .inr (0, [.ref q51, .ref q52, .int 0, .int 0])), (q51, .inl (cI, 64, .inl (fun _ => 0))), (q52, .inl (cI, 64, .inl (fun _ => 0))), (q53, .inr (0, [.ref q54, .ref q55, .int 0, .int 0])), (q54, .inl (cI, 64, .inl (fun _ => 0))), (q55, .inl (cI, 64, .inl (fun _ => 0))), (q56, .inr (4, [.ref q57, .int 0, .int 0, .long 0, .long 1])), (q57, .inl (cI, 6, .inl (fun _ => 0)))] := ⟨hP, hD⟩
  replace hP := hPD.1
  replace hD := hPD.2
  clear hPD
  refine lv_aload_n hx hb dX7_init_102 rfl (lv_at hl 0 rfl) ?_
  refine lv_bipush (v := 6) hx hb dX7_init_103 (by decide) ?_
  refine va_newa (atype := .int) (ty := .int) (a0 := (6, .inl (fun _ => 0))) (N' := 6) hx hb (htk _ wArr) rfl hK hP hD hS hA (fun _ => rfl) (by decide) rfl (by decide) (Nat.le_of_ble_eq_true rfl) (Nat.le_of_ble_eq_true rfl) dX7_init_105 (fun q58 c59 H hK1 hP hD hS => ?_)
  obtain rfl : cI = c59 := kc_same hK1 0 3 rfl rfl
  have hPD : kc_PD D A H [(h0, .inr (7, [.ref q1, .ref q10, .ref q17, .ref q24, .ref q33, .ref q39, .ref q42, .ref q56, .null, .null, .null])), (q1, .inr (3, [.int 40, .ref q2, .ref q9])), (q2, .inl (cII, 6, .inr (.inr (.inr (.inr (fun j : Nat => ([q3, q4, q5, q6, q7, q8] : List Nat)[j]?)))))), (q3, .inl (cI, 40, .inl (fun _ => 0))), (q4, .inl (cI, 40, .inl (fun _ => 0))), (q5, .inl (cI, 40, .inl (fun _ => 0))), (q6, .inl (cI, 40, .inl (fun _ => 0))), (q7, .inl (cI, 40, .inl (fun _ => 0))), (q8, .inl (cI, 40, .inl (fun _ => 0))), (q9, .inl (cI, 6, .inl (fun j => if j < 6 then (-1) else 0))), (q10, .inr (3, [.int 60, .ref q11, .ref q16])), (q11, .inl (cII, 4, .inr (.inr (.inr (.inr (fun j : Nat => ([q12, q13, q14, q15] : List Nat)[j]?)))))), (q12, .inl (cI, 60, .inl (fun _ => 0))), (q13, .inl (cI, 60, .inl (fun _ => 0))), (q14, .inl (cI, 60, .inl (fun _ => 0))), (q15, .inl (cI, 60, .inl (fun _ => 0))), (q16, .inl (cI, 4, .inl (fun j => if j < 4 then (-1) else 0))), (q17, .inr (2, [.ref q18, .int 0])), (q18, .inr (1, [.ref q19, .ref q20, .ref q21, .ref q22, .ref q23, .int 0, .int 0])), (q19, .inl (cI, 6, .inl (fun _ => 0))), (q20, .inl (cI, 6, .inl (fun _ => 0))), (q21, .inl (cI, 6, .inl (fun _ => 0))), (q22, .inl (cI, 6, .inl (fun _ => 0))), (q23, .inl (cI, 8, .inl (fun _ => 0))), (q24, .inr (5, [.ref q25, .ref q31, .ref q32, .int 0, .int 0, .int 0, .int 0, .int 0])), (q25, .inr (1, [.ref q26, .ref q27, .ref q28, .ref q29, .ref q30, .int 0, .int 0])), (q26, .inl (cI, 6, .inl (fun _ => 0))), (q27, .inl (cI, 6, .inl (fun _ => 0))), (q28, .inl (cI, 6, .inl (fun _ => 0))), (q29, .inl (cI, 6, .inl (fun _ => 0))), (q30, .inl (cI, 8, .inl (fun _ => 0))), (q31, .inl (cI, 40, .inl (fun _ => 0))), (q32, .inl (cI, 6, .inl (fun _ => 0))), (q33, .inr (3, [.int 40, .ref q34, .ref q38])), (q34, .inl (cII, 3, .inr (.inr (.inr (.inr (fun j : Nat => ([q35, q36, q37] : List Nat)[j]?)))))), (q35, .inl (cI, 40, .inl (fun _ => 0))), (q36, .inl (cI, 40, .inl (fun _ => 0))), (q37, .inl (cI, 40, .inl (fun _ => 0))), (q38, .inl (cI, 3, .inl (fun j => if j < 3 then (-1) else 0))), (q39, .inr (0, [.ref q40, .ref q41, .int 0, .int 0])), (q40, .inl (cI, 64, .inl (fun _ => 0))), (q41, .inl (cI, 64, .inl (fun _ => 0))), (q42, .inr (6, [.ref q43, .int 0, .ref q44, .ref q45, .ref q46, .int 0, .int 0, .int 0])), (q43, .inl (cI, 3, .inl (fun _ => 0))), (q44, .inl (cC, 3, .inr (.inr (.inr (.inr (va_up (va_up (va_up (fun _ => none) 0 (some q47)) 1 (some q50)) 2 (some q53))))))), (q45, .inl (cI, 4, .inl (fun _ => 0))), (q46, .inl (cI, 3, .inl (fun _ => 0))), (q47, .inr (0, [.ref q48, .ref q49, .int 0, .int 0])), (q48, .inl (cI, 64, .inl (fun _ => 0))), (q49, .inl (cI, 64, .inl (fun _ => 0))), (q50, .inr (0, [.ref q51, .ref q52, .int 0, .int 0])), (q51, .inl (cI, 64, .inl (fun _ => 0))), (q52, .inl (cI, 64, .inl (fun _ => 0))), (q53, .inr (0, [.ref q54, .ref q55, .int 0, .int 0])), (q54, .inl (cI, 64, .inl (fun _ => 0))), (q55, .inl (cI, 64, .inl (fun _ => 0))), (q56, .inr (4, [.ref q57, .int 0, .int 0, .long 0, .long 1])), (q57, .inl (cI, 6, .inl (fun _ => 0))), (q58, .inl (cI, 6, .inl (fun _ => 0)))] := ⟨hP, hD⟩
  replace hP := hPD.1
  replace hD := hPD.2
  clear hPD
  refine W.widen (k := 58) (n := 1335) (Nat.le_of_ble_eq_true rfl) (Nat.le_of_ble_eq_true rfl) ?_
  refine va_putF (D := D) (ci := 7) (v := .ref q58) (ty := .array .int) (C := RX7) (T := TX7) (N := 11) hx hb htk inW7 tyX7 tyX7_ok nmX7 hown hK hP hD hS 0 rfl rfl 8 (by decide) (htk _ kfX7_59) (fun _ h9 => h9) rfl hin rfl (by decide +kernel) rfl rfl (Nat.le_of_ble_eq_true rfl) dX7_init_107 (fun H locs hP hD hS => ?_)
  have hPD : kc_PD D A H [(h0, .inr (7, [.ref q1, .ref q10, .ref q17, .ref q24, .ref q33, .ref q39, .ref q42, .ref q56, .ref q58, .null, .null])), (q1, .inr (3, [.int 40, .ref q2, .ref q9])), (q2, .inl (cII, 6, .inr (.inr (.inr (.inr (fun j : Nat => ([q3, q4, q5, q6, q7, q8] : List Nat)[j]?)))))), (q3, .inl (cI, 40, .inl (fun _ => 0))), (q4, .inl (cI, 40, .inl (fun _ => 0))), (q5, .inl (cI, 40, .inl (fun _ => 0))), (q6, .inl (cI, 40, .inl (fun _ => 0))), (q7, .inl (cI, 40, .inl (fun _ => 0))), (q8, .inl (cI, 40, .inl (fun _ => 0))), (q9, .inl (cI, 6, .inl (fun j => if j < 6 then (-1) else 0))), (q10, .inr (3, [.int 60, .ref q11, .ref q16])), (q11, .inl (cII, 4, .inr (.inr (.inr (.inr (fun j : Nat => ([q12, q13, q14, q15] : List Nat)[j]?)))))), (q12, .inl (cI, 60, .inl (fun _ => 0))), (q13, .inl (cI, 60, .inl (fun _ => 0))), (q14, .inl (cI, 60, .inl (fun _ => 0))), (q15, .inl (cI, 60, .inl (fun _ => 0))), (q16, .inl (cI, 4, .inl (fun j => if j < 4 then (-1) else 0))), (q17, .inr (2, [.ref q18, .int 0])), (q18, .inr (1, [.ref q19, .ref q20, .ref q21, .ref q22, .ref q23, .int 0, .int 0])), (q19, .inl (cI, 6, .inl (fun _ => 0))), (q20, .inl (cI, 6, .inl (fun _ => 0))), (q21, .inl (cI, 6, .inl (fun _ => 0))), (q22, .inl (cI, 6, .inl (fun _ => 0))), (q23, .inl (cI, 8, .inl (fun _ => 0))), (q24, .inr (5, [.ref q25, .ref q31, .ref q32, .int 0, .int 0, .int 0, .int 0, .int 0])), (q25, .inr (1, [.ref q26, .ref q27, .ref q28, .ref q29, .ref q30, .int 0, .int 0])), (q26, .inl (cI, 6, .inl (fun _ => 0))), (q27, .inl (cI, 6, .inl (fun _ => 0))), (q28, .inl (cI, 6, .inl (fun _ => 0))), (q29, .inl (cI, 6, .inl (fun _ => 0))), (q30, .inl (cI, 8, .inl (fun _ => 0))), (q31, .inl (cI, 40, .inl (fun _ => 0))), (q32, .inl (cI, 6, .inl (fun _ => 0))), (q33, .inr (3, [.int 40, .ref q34, .ref q38])), (q34, .inl (cII, 3, .inr (.inr (.inr (.inr (fun j : Nat => ([q35, q36, q37] : List Nat)[j]?)))))), (q35, .inl (cI, 40, .inl (fun _ => 0))), (q36, .inl (cI, 40, .inl (fun _ => 0))), (q37, .inl (cI, 40, .inl (fun _ => 0))), (q38, .inl (cI, 3, .inl (fun j => if j < 3 then (-1) else 0))), (q39, .inr (0, [.ref q40, .ref q41, .int 0, .int 0])), (q40, .inl (cI, 64, .inl (fun _ => 0))), (q41, .inl (cI, 64, .inl (fun _ => 0))), (q42, .inr (6, [.ref q43, .int 0, .ref q44, .ref q45, .ref q46, .int 0, .int 0, .int 0])), (q43, .inl (cI, 3, .inl (fun _ => 0))), (q44, .inl (cC, 3, .inr (.inr (.inr (.inr (va_up (va_up (va_up (fun _ => none) 0 (some q47)) 1 (some q50)) 2 (some q53))))))), (q45, .inl (cI, 4, .inl (fun _ => 0))), (q46, .inl (cI, 3, .inl (fun _ => 0))), (q47, .inr (0, [.ref q48, .ref q49, .int 0, .int 0])), (q48, .inl (cI, 64, .inl (fun _ => 0))), (q49, .inl (cI, 64, .inl (fun _ => 0))), (q50, .inr (0, [.ref q51, .ref q52, .int 0, .int 0])), (q51, .inl (cI, 64, .inl (fun _ => 0))), (q52, .inl (cI, 64, .inl (fun _ => 0))), (q53, .inr (0, [.ref q54, .ref q55, .int 0, .int 0])), (q54, .inl (cI, 64, .inl (fun _ => 0))), (q55, .inl (cI, 64, .inl (fun _ => 0))), (q56, .inr (4, [.ref q57, .int 0, .int 0, .long 0, .long 1])), (q57, .inl (cI, 6, .inl (fun _ => 0))), (q58, .inl (cI, 6, .inl (fun _ => 0)))] := ⟨hP, hD⟩
  replace hP := hPD.1
  replace hD := hPD.2
  clear hPD
  refine lv_aload_n hx hb dX7_init_110 rfl (lv_at hl 0 rfl) ?_
  refine lv_bipush (v := 6) hx hb dX7_init_111 (by decide) ?_
  refine va_newa (atype := .int) (ty := .int) (a0 := (6, .inl (fun _ => 0))) (N' := 6) hx hb (htk _ wArr) rfl hK hP hD hS hA (fun _ => rfl) (by decide) rfl (by decide) (Nat.le_of_ble_eq_true rfl) (Nat.le_of_ble_eq_true rfl) dX7_init_113 (fun q60 c61 H hK1 hP hD hS => ?_)
  obtain rfl : cI = c61 := kc_same hK1 0 3 rfl rfl
  have hPD : kc_PD D A H [(h0, .inr (7, [.ref q1, .ref q10, .ref q17, .ref q24, .ref q33, .ref q39, .ref q42, .ref q56, .ref q58, .null, .null])), (q1, .inr (3, [.int 40, .ref q2, .ref q9])), (q2, .inl (cII, 6, .inr (.inr (.inr (.inr (fun j : Nat => ([q3, q4, q5, q6, q7, q8] : List Nat)[j]?)))))), (q3, .inl (cI, 40, .inl (fun _ => 0))), (q4, .inl (cI, 40, .inl (fun _ => 0))), (q5, .inl (cI, 40, .inl (fun _ => 0))), (q6, .inl (cI, 40, .inl (fun _ => 0))), (q7, .inl (cI, 40, .inl (fun _ => 0))), (q8, .inl (cI, 40, .inl (fun _ => 0))), (q9, .inl (cI, 6, .inl (fun j => if j < 6 then (-1) else 0))), (q10, .inr (3, [.int 60, .ref q11, .ref q16])), (q11, .inl (cII, 4, .inr (.inr (.inr (.inr (fun j : Nat => ([q12, q13, q14, q15] : List Nat)[j]?)))))), (q12, .inl (cI, 60, .inl (fun _ => 0))), (q13, .inl (cI, 60, .inl (fun _ => 0))), (q14, .inl (cI, 60, .inl (fun _ => 0))), (q15, .inl (cI, 60, .inl (fun _ => 0))), (q16, .inl (cI, 4, .inl (fun j => if j < 4 then (-1) else 0))), (q17, .inr (2, [.ref q18, .int 0])), (q18, .inr (1, [.ref q19, .ref q20, .ref q21, .ref q22, .ref q23, .int 0, .int 0])), (q19, .inl (cI, 6, .inl (fun _ => 0))), (q20, .inl (cI, 6, .inl (fun _ => 0))), (q21, .inl (cI, 6, .inl (fun _ => 0))), (q22, .inl (cI, 6, .inl (fun _ => 0))), (q23, .inl (cI, 8, .inl (fun _ => 0))), (q24, .inr (5, [.ref q25, .ref q31, .ref q32, .int 0, .int 0, .int 0, .int 0, .int 0])), (q25, .inr (1, [.ref q26, .ref q27, .ref q28, .ref q29, .ref q30, .int 0, .int 0])), (q26, .inl (cI, 6, .inl (fun _ => 0))), (q27, .inl (cI, 6, .inl (fun _ => 0))), (q28, .inl (cI, 6, .inl (fun _ => 0))), (q29, .inl (cI, 6, .inl (fun _ => 0))), (q30, .inl (cI, 8, .inl (fun _ => 0))), (q31, .inl (cI, 40, .inl (fun _ => 0))), (q32, .inl (cI, 6, .inl (fun _ => 0))), (q33, .inr (3, [.int 40, .ref q34, .ref q38])), (q34, .inl (cII, 3, .inr (.inr (.inr (.inr (fun j : Nat => ([q35, q36, q37] : List Nat)[j]?)))))), (q35, .inl (cI, 40, .inl (fun _ => 0))), (q36, .inl (cI, 40, .inl (fun _ => 0))), (q37, .inl (cI, 40, .inl (fun _ => 0))), (q38, .inl (cI, 3, .inl (fun j => if j < 3 then (-1) else 0))), (q39, .inr (0, [.ref q40, .ref q41, .int 0, .int 0])), (q40, .inl (cI, 64, .inl (fun _ => 0))), (q41, .inl (cI, 64, .inl (fun _ => 0))), (q42, .inr (6, [.ref q43, .int 0, .ref q44, .ref q45, .ref q46, .int 0, .int 0, .int 0])), (q43, .inl (cI, 3, .inl (fun _ => 0))), (q44, .inl (cC, 3, .inr (.inr (.inr (.inr (va_up (va_up (va_up (fun _ => none) 0 (some q47)) 1 (some q50)) 2 (some q53))))))), (q45, .inl (cI, 4, .inl (fun _ => 0))), (q46, .inl (cI, 3, .inl (fun _ => 0))), (q47, .inr (0, [.ref q48, .ref q49, .int 0, .int 0])), (q48, .inl (cI, 64, .inl (fun _ => 0))), (q49, .inl (cI, 64, .inl (fun _ => 0))), (q50, .inr (0, [.ref q51, .ref q52, .int 0, .int 0])), (q51, .inl (cI, 64, .inl (fun _ => 0))), (q52, .inl (cI, 64, .inl (fun _ => 0))), (q53, .inr (0, [.ref q54, .ref q55, .int 0, .int 0])), (q54, .inl (cI, 64, .inl (fun _ => 0))), (q55, .inl (cI, 64, .inl (fun _ => 0))), (q56, .inr (4, [.ref q57, .int 0, .int 0, .long 0, .long 1])), (q57, .inl (cI, 6, .inl (fun _ => 0))), (q58, .inl (cI, 6, .inl (fun _ => 0))), (q60, .inl (cI, 6, .inl (fun _ => 0)))] := ⟨hP, hD⟩
  replace hP := hPD.1
  replace hD := hPD.2
  clear hPD
  refine W.widen (k := 59) (n := 1341) (Nat.le_of_ble_eq_true rfl) (Nat.le_of_ble_eq_true rfl) ?_
  refine va_putF (D := D) (ci := 7) (v := .ref q60) (ty := .array .int) (C := RX7) (T := TX7) (N := 11) hx hb htk inW7 tyX7 tyX7_ok nmX7 hown hK hP hD hS 0 rfl rfl 9 (by decide) (htk _ kfX7_63) (fun _ h9 => h9) rfl hin rfl (by decide +kernel) rfl rfl (Nat.le_of_ble_eq_true rfl) dX7_init_115 (fun H locs hP hD hS => ?_)
  have hPD : kc_PD D A H [(h0, .inr (7, [.ref q1, .ref q10, .ref q17, .ref q24, .ref q33, .ref q39, .ref q42, .ref q56, .ref q58, .ref q60, .null])), (q1, .inr (3, [.int 40, .ref q2, .ref q9])), (q2, .inl (cII, 6, .inr (.inr (.inr (.inr (fun j : Nat => ([q3, q4, q5, q6, q7, q8] : List Nat)[j]?)))))), (q3, .inl (cI, 40, .inl (fun _ => 0))), (q4, .inl (cI, 40, .inl (fun _ => 0))), (q5, .inl (cI, 40, .inl (fun _ => 0))), (q6, .inl (cI, 40, .inl (fun _ => 0))), (q7, .inl (cI, 40, .inl (fun _ => 0))), (q8, .inl (cI, 40, .inl (fun _ => 0))), (q9, .inl (cI, 6, .inl (fun j => if j < 6 then (-1) else 0))), (q10, .inr (3, [.int 60, .ref q11, .ref q16])), (q11, .inl (cII, 4, .inr (.inr (.inr (.inr (fun j : Nat => ([q12, q13, q14, q15] : List Nat)[j]?)))))), (q12, .inl (cI, 60, .inl (fun _ => 0))), (q13, .inl (cI, 60, .inl (fun _ => 0))), (q14, .inl (cI, 60, .inl (fun _ => 0))), (q15, .inl (cI, 60, .inl (fun _ => 0))), (q16, .inl (cI, 4, .inl (fun j => if j < 4 then (-1) else 0))), (q17, .inr (2, [.ref q18, .int 0])), (q18, .inr (1, [.ref q19, .ref q20, .ref q21, .ref q22, .ref q23, .int 0, .int 0])), (q19, .inl (cI, 6, .inl (fun _ => 0))), (q20, .inl (cI, 6, .inl (fun _ => 0))), (q21, .inl (cI, 6, .inl (fun _ => 0))), (q22, .inl (cI, 6, .inl (fun _ => 0))), (q23, .inl (cI, 8, .inl (fun _ => 0))), (q24, .inr (5, [.ref q25, .ref q31, .ref q32, .int 0, .int 0, .int 0, .int 0, .int 0])), (q25, .inr (1, [.ref q26, .ref q27, .ref q28, .ref q29, .ref q30, .int 0, .int 0])), (q26, .inl (cI, 6, .inl (fun _ => 0))), (q27, .inl (cI, 6, .inl (fun _ => 0))), (q28, .inl (cI, 6, .inl (fun _ => 0))), (q29, .inl (cI, 6, .inl (fun _ => 0))), (q30, .inl (cI, 8, .inl (fun _ => 0))), (q31, .inl (cI, 40, .inl (fun _ => 0))), (q32, .inl (cI, 6, .inl (fun _ => 0))), (q33, .inr (3, [.int 40, .ref q34, .ref q38])), (q34, .inl (cII, 3, .inr (.inr (.inr (.inr (fun j : Nat => ([q35, q36, q37] : List Nat)[j]?)))))), (q35, .inl (cI, 40, .inl (fun _ => 0))), (q36, .inl (cI, 40, .inl (fun _ => 0))), (q37, .inl (cI, 40, .inl (fun _ => 0))), (q38, .inl (cI, 3, .inl (fun j => if j < 3 then (-1) else 0))), (q39, .inr (0, [.ref q40, .ref q41, .int 0, .int 0])), (q40, .inl (cI, 64, .inl (fun _ => 0))), (q41, .inl (cI, 64, .inl (fun _ => 0))), (q42, .inr (6, [.ref q43, .int 0, .ref q44, .ref q45, .ref q46, .int 0, .int 0, .int 0])), (q43, .inl (cI, 3, .inl (fun _ => 0))), (q44, .inl (cC, 3, .inr (.inr (.inr (.inr (va_up (va_up (va_up (fun _ => none) 0 (some q47)) 1 (some q50)) 2 (some q53))))))), (q45, .inl (cI, 4, .inl (fun _ => 0))), (q46, .inl (cI, 3, .inl (fun _ => 0))), (q47, .inr (0, [.ref q48, .ref q49, .int 0, .int 0])), (q48, .inl (cI, 64, .inl (fun _ => 0))), (q49, .inl (cI, 64, .inl (fun _ => 0))), (q50, .inr (0, [.ref q51, .ref q52, .int 0, .int 0])), (q51, .inl (cI, 64, .inl (fun _ => 0))), (q52, .inl (cI, 64, .inl (fun _ => 0))), (q53, .inr (0, [.ref q54, .ref q55, .int 0, .int 0])), (q54, .inl (cI, 64, .inl (fun _ => 0))), (q55, .inl (cI, 64, .inl (fun _ => 0))), (q56, .inr (4, [.ref q57, .int 0, .int 0, .long 0, .long 1])), (q57, .inl (cI, 6, .inl (fun _ => 0))), (q58, .inl (cI, 6, .inl (fun _ => 0))), (q60, .inl (cI, 6, .inl (fun _ => 0)))] := ⟨hP, hD⟩
  replace hP := hPD.1
  replace hD := hPD.2
  clear hPD
  refine lv_aload_n hx hb dX7_init_118 rfl (lv_at hl 0 rfl) ?_
  refine lv_bipush (v := 6) hx hb dX7_init_119 (by decide) ?_
  refine va_newa (atype := .int) (ty := .int) (a0 := (6, .inl (fun _ => 0))) (N' := 6) hx hb (htk _ wArr) rfl hK hP hD hS hA (fun _ => rfl) (by decide) rfl (by decide) (Nat.le_of_ble_eq_true rfl) (Nat.le_of_ble_eq_true rfl) dX7_init_121 (fun q62 c63 H hK1 hP hD hS => ?_)
  obtain rfl : cI = c63 := kc_same hK1 0 3 rfl rfl
  have hPD : kc_PD D A H [(h0, .inr (7, [.ref q1, .ref q10, .ref q17, .ref q24, .ref q33, .ref q39, .ref q42, .ref q56, .ref q58, .ref q60, .null])), (q1, .inr (3, [.int 40, .ref q2, .ref q9])), (q2, .inl (cII, 6, .inr (.inr (.inr (.inr (fun j : Nat => ([q3, q4, q5, q6, q7, q8] : List Nat)[j]?)))))), (q3, .inl (cI, 40, .inl (fun _ => 0))), (q4, .inl (cI, 40, .inl (fun _ => 0))), (q5, .inl (cI, 40, .inl (fun _ => 0))), (q6, .inl (cI, 40, .inl (fun _ => 0))), (q7, .inl (cI, 40, .inl (fun _ => 0))), (q8, .inl (cI, 40, .inl (fun _ => 0))), (q9, .inl (cI, 6, .inl (fun j => if j < 6 then (-1) else 0))), (q10, .inr (3, [.int 60, .ref q11, .ref q16])), (q11, .inl (cII, 4, .inr (.inr (.inr (.inr (fun j : Nat => ([q12, q13, q14, q15] : List Nat)[j]?)))))), (q12, .inl (cI, 60, .inl (fun _ => 0))), (q13, .inl (cI, 60, .inl (fun _ => 0))), (q14, .inl (cI, 60, .inl (fun _ => 0))), (q15, .inl (cI, 60, .inl (fun _ => 0))), (q16, .inl (cI, 4, .inl (fun j => if j < 4 then (-1) else 0))), (q17, .inr (2, [.ref q18, .int 0])), (q18, .inr (1, [.ref q19, .ref q20, .ref q21, .ref q22, .ref q23, .int 0, .int 0])), (q19, .inl (cI, 6, .inl (fun _ => 0))), (q20, .inl (cI, 6, .inl (fun _ => 0))), (q21, .inl (cI, 6, .inl (fun _ => 0))), (q22, .inl (cI, 6, .inl (fun _ => 0))), (q23, .inl (cI, 8, .inl (fun _ => 0))), (q24, .inr (5, [.ref q25, .ref q31, .ref q32, .int 0, .int 0, .int 0, .int 0, .int 0])), (q25, .inr (1, [.ref q26, .ref q27, .ref q28, .ref q29, .ref q30, .int 0, .int 0])), (q26, .inl (cI, 6, .inl (fun _ => 0))), (q27, .inl (cI, 6, .inl (fun _ => 0))), (q28, .inl (cI, 6, .inl (fun _ => 0))), (q29, .inl (cI, 6, .inl (fun _ => 0))), (q30, .inl (cI, 8, .inl (fun _ => 0))), (q31, .inl (cI, 40, .inl (fun _ => 0))), (q32, .inl (cI, 6, .inl (fun _ => 0))), (q33, .inr (3, [.int 40, .ref q34, .ref q38])), (q34, .inl (cII, 3, .inr (.inr (.inr (.inr (fun j : Nat => ([q35, q36, q37] : List Nat)[j]?)))))), (q35, .inl (cI, 40, .inl (fun _ => 0))), (q36, .inl (cI, 40, .inl (fun _ => 0))), (q37, .inl (cI, 40, .inl (fun _ => 0))), (q38, .inl (cI, 3, .inl (fun j => if j < 3 then (-1) else 0))), (q39, .inr (0, [.ref q40, .ref q41, .int 0, .int 0])), (q40, .inl (cI, 64, .inl (fun _ => 0))), (q41, .inl (cI, 64, .inl (fun _ => 0))), (q42, .inr (6, [.ref q43, .int 0, .ref q44, .ref q45, .ref q46, .int 0, .int 0, .int 0])), (q43, .inl (cI, 3, .inl (fun _ => 0))), (q44, .inl (cC, 3, .inr (.inr (.inr (.inr (va_up (va_up (va_up (fun _ => none) 0 (some q47)) 1 (some q50)) 2 (some q53))))))), (q45, .inl (cI, 4, .inl (fun _ => 0))), (q46, .inl (cI, 3, .inl (fun _ => 0))), (q47, .inr (0, [.ref q48, .ref q49, .int 0, .int 0])), (q48, .inl (cI, 64, .inl (fun _ => 0))), (q49, .inl (cI, 64, .inl (fun _ => 0))), (q50, .inr (0, [.ref q51, .ref q52, .int 0, .int 0])), (q51, .inl (cI, 64, .inl (fun _ => 0))), (q52, .inl (cI, 64, .inl (fun _ => 0))), (q53, .inr (0, [.ref q54, .ref q55, .int 0, .int 0])), (q54, .inl (cI, 64, .inl (fun _ => 0))), (q55, .inl (cI, 64, .inl (fun _ => 0))), (q56, .inr (4, [.ref q57, .int 0, .int 0, .long 0, .long 1])), (q57, .inl (cI, 6, .inl (fun _ => 0))), (q58, .inl (cI, 6, .inl (fun _ => 0))), (q60, .inl (cI, 6, .inl (fun _ => 0))), (q62, .inl (cI, 6, .inl (fun _ => 0)))] := ⟨hP, hD⟩
  replace hP := hPD.1
  replace hD := hPD.2
  clear hPD
  refine W.widen (k := 60) (n := 1347) (Nat.le_of_ble_eq_true rfl) (Nat.le_of_ble_eq_true rfl) ?_
  refine va_putF (D := D) (ci := 7) (v := .ref q62) (ty := .array .int) (C := RX7) (T := TX7) (N := 11) hx hb htk inW7 tyX7 tyX7_ok nmX7 hown hK hP hD hS 0 rfl rfl 10 (by decide) (htk _ kfX7_66) (fun _ h9 => h9) rfl hin rfl (by decide +kernel) rfl rfl (Nat.le_of_ble_eq_true rfl) dX7_init_123 (fun H locs hP hD hS => ?_)
  have hPD : kc_PD D A H [(h0, .inr (7, [.ref q1, .ref q10, .ref q17, .ref q24, .ref q33, .ref q39, .ref q42, .ref q56, .ref q58, .ref q60, .ref q62])), (q1, .inr (3, [.int 40, .ref q2, .ref q9])), (q2, .inl (cII, 6, .inr (.inr (.inr (.inr (fun j : Nat => ([q3, q4, q5, q6, q7, q8] : List Nat)[j]?)))))), (q3, .inl (cI, 40, .inl (fun _ => 0))), (q4, .inl (cI, 40, .inl (fun _ => 0))), (q5, .inl (cI, 40, .inl (fun _ => 0))), (q6, .inl (cI, 40, .inl (fun _ => 0))), (q7, .inl (cI, 40, .inl (fun _ => 0))), (q8, .inl (cI, 40, .inl (fun _ => 0))), (q9, .inl (cI, 6, .inl (fun j => if j < 6 then (-1) else 0))), (q10, .inr (3, [.int 60, .ref q11, .ref q16])), (q11, .inl (cII, 4, .inr (.inr (.inr (.inr (fun j : Nat => ([q12, q13, q14, q15] : List Nat)[j]?)))))), (q12, .inl (cI, 60, .inl (fun _ => 0))), (q13, .inl (cI, 60, .inl (fun _ => 0))), (q14, .inl (cI, 60, .inl (fun _ => 0))), (q15, .inl (cI, 60, .inl (fun _ => 0))), (q16, .inl (cI, 4, .inl (fun j => if j < 4 then (-1) else 0))), (q17, .inr (2, [.ref q18, .int 0])), (q18, .inr (1, [.ref q19, .ref q20, .ref q21, .ref q22, .ref q23, .int 0, .int 0])), (q19, .inl (cI, 6, .inl (fun _ => 0))), (q20, .inl (cI, 6, .inl (fun _ => 0))), (q21, .inl (cI, 6, .inl (fun _ => 0))), (q22, .inl (cI, 6, .inl (fun _ => 0))), (q23, .inl (cI, 8, .inl (fun _ => 0))), (q24, .inr (5, [.ref q25, .ref q31, .ref q32, .int 0, .int 0, .int 0, .int 0, .int 0])), (q25, .inr (1, [.ref q26, .ref q27, .ref q28, .ref q29, .ref q30, .int 0, .int 0])), (q26, .inl (cI, 6, .inl (fun _ => 0))), (q27, .inl (cI, 6, .inl (fun _ => 0))), (q28, .inl (cI, 6, .inl (fun _ => 0))), (q29, .inl (cI, 6, .inl (fun _ => 0))), (q30, .inl (cI, 8, .inl (fun _ => 0))), (q31, .inl (cI, 40, .inl (fun _ => 0))), (q32, .inl (cI, 6, .inl (fun _ => 0))), (q33, .inr (3, [.int 40, .ref q34, .ref q38])), (q34, .inl (cII, 3, .inr (.inr (.inr (.inr (fun j : Nat => ([q35, q36, q37] : List Nat)[j]?)))))), (q35, .inl (cI, 40, .inl (fun _ => 0))), (q36, .inl (cI, 40, .inl (fun _ => 0))), (q37, .inl (cI, 40, .inl (fun _ => 0))), (q38, .inl (cI, 3, .inl (fun j => if j < 3 then (-1) else 0))), (q39, .inr (0, [.ref q40, .ref q41, .int 0, .int 0])), (q40, .inl (cI, 64, .inl (fun _ => 0))), (q41, .inl (cI, 64, .inl (fun _ => 0))), (q42, .inr (6, [.ref q43, .int 0, .ref q44, .ref q45, .ref q46, .int 0, .int 0, .int 0])), (q43, .inl (cI, 3, .inl (fun _ => 0))), (q44, .inl (cC, 3, .inr (.inr (.inr (.inr (va_up (va_up (va_up (fun _ => none) 0 (some q47)) 1 (some q50)) 2 (some q53))))))), (q45, .inl (cI, 4, .inl (fun _ => 0))), (q46, .inl (cI, 3, .inl (fun _ => 0))), (q47, .inr (0, [.ref q48, .ref q49, .int 0, .int 0])), (q48, .inl (cI, 64, .inl (fun _ => 0))), (q49, .inl (cI, 64, .inl (fun _ => 0))), (q50, .inr (0, [.ref q51, .ref q52, .int 0, .int 0])), (q51, .inl (cI, 64, .inl (fun _ => 0))), (q52, .inl (cI, 64, .inl (fun _ => 0))), (q53, .inr (0, [.ref q54, .ref q55, .int 0, .int 0])), (q54, .inl (cI, 64, .inl (fun _ => 0))), (q55, .inl (cI, 64, .inl (fun _ => 0))), (q56, .inr (4, [.ref q57, .int 0, .int 0, .long 0, .long 1])), (q57, .inl (cI, 6, .inl (fun _ => 0))), (q58, .inl (cI, 6, .inl (fun _ => 0))), (q60, .inl (cI, 6, .inl (fun _ => 0))), (q62, .inl (cI, 6, .inl (fun _ => 0)))] := ⟨hP, hD⟩
  replace hP := hPD.1
  replace hD := hPD.2
  clear hPD
  have hP := hP.sub (ws' := [(h0, .inr (7, [.ref q1, .ref q10, .ref q17, .ref q24, .ref q33, .ref q39, .ref q42, .ref q56, .ref q58, .ref q60, .ref q62])), (q1, .inr (3, [.int 40, .ref q2, .ref q9])), (q10, .inr (3, [.int 60, .ref q11, .ref q16])), (q17, .inr (2, [.ref q18, .int 0])), (q24, .inr (5, [.ref q25, .ref q31, .ref q32, .int 0, .int 0, .int 0, .int 0, .int 0])), (q33, .inr (3, [.int 40, .ref q34, .ref q38])), (q39, .inr (0, [.ref q40, .ref q41, .int 0, .int 0])), (q42, .inr (6, [.ref q43, .int 0, .ref q44, .ref q45, .ref q46, .int 0, .int 0, .int 0])), (q56, .inr (4, [.ref q57, .int 0, .int 0, .long 0, .long 1])), (q58, .inl (cI, 6, .inl (fun _ => 0))), (q60, .inl (cI, 6, .inl (fun _ => 0))), (q62, .inl (cI, 6, .inl (fun _ => 0))), (q2, .inl (cII, 6, .inr (.inr (.inr (.inr (fun j : Nat => ([q3, q4, q5, q6, q7, q8] : List Nat)[j]?)))))), (q9, .inl (cI, 6, .inl (fun j => if j < 6 then (-1) else 0))), (q11, .inl (cII, 4, .inr (.inr (.inr (.inr (fun j : Nat => ([q12, q13, q14, q15] : List Nat)[j]?)))))), (q16, .inl (cI, 4, .inl (fun j => if j < 4 then (-1) else 0))), (q18, .inr (1, [.ref q19, .ref q20, .ref q21, .ref q22, .ref q23, .int 0, .int 0])), (q25, .inr (1, [.ref q26, .ref q27, .ref q28, .ref q29, .ref q30, .int 0, .int 0])), (q31, .inl (cI, 40, .inl (fun _ => 0))), (q32, .inl (cI, 6, .inl (fun _ => 0))), (q34, .inl (cII, 3, .inr (.inr (.inr (.inr (fun j : Nat => ([q35, q36, q37] : List Nat)[j]?)))))), (q38, .inl (cI, 3, .inl (fun j => if j < 3 then (-1) else 0))), (q40, .inl (cI, 64, .inl (fun _ => 0))), (q41, .inl (cI, 64, .inl (fun _ => 0))), (q43, .inl (cI, 3, .inl (fun _ => 0))), (q44, .inl (cC, 3, .inr (.inr (.inr (.inr (va_up (va_up (va_up (fun _ => none) 0 (some q47)) 1 (some q50)) 2 (some q53))))))), (q45, .inl (cI, 4, .inl (fun _ => 0))), (q46, .inl (cI, 3, .inl (fun _ => 0))), (q57, .inl (cI, 6, .inl (fun _ => 0))), (q3, .inl (cI, 40, .inl (fun _ => 0))), (q4, .inl (cI, 40, .inl (fun _ => 0))), (q5, .inl (cI, 40, .inl (fun _ => 0))), (q6, .inl (cI, 40, .inl (fun _ => 0))), (q7, .inl (cI, 40, .inl (fun _ => 0))), (q8, .inl (cI, 40, .inl (fun _ => 0))), (q12, .inl (cI, 60, .inl (fun _ => 0))), (q13, .inl (cI, 60, .inl (fun _ => 0))), (q14, .inl (cI, 60, .inl (fun _ => 0))), (q15, .inl (cI, 60, .inl (fun _ => 0))), (q19, .inl (cI, 6, .inl (fun _ => 0))), (q20, .inl (cI, 6, .inl (fun _ => 0))), (q21, .inl (cI, 6, .inl (fun _ => 0))), (q22, .inl (cI, 6, .inl (fun _ => 0))), (q23, .inl (cI, 8, .inl (fun _ => 0))), (q26, .inl (cI, 6, .inl (fun _ => 0))), (q27, .inl (cI, 6, .inl (fun _ => 0))), (q28, .inl (cI, 6, .inl (fun _ => 0))), (q29, .inl (cI, 6, .inl (fun _ => 0))), (q30, .inl (cI, 8, .inl (fun _ => 0))), (q35, .inl (cI, 40, .inl (fun _ => 0))), (q36, .inl (cI, 40, .inl (fun _ => 0))), (q37, .inl (cI, 40, .inl (fun _ => 0))), (q47, .inr (0, [.ref q48, .ref q49, .int 0, .int 0])), (q50, .inr (0, [.ref q51, .ref q52, .int 0, .int 0])), (q53, .inr (0, [.ref q54, .ref q55, .int 0, .int 0])), (q48, .inl (cI, 64, .inl (fun _ => 0))), (q49, .inl (cI, 64, .inl (fun _ => 0))), (q51, .inl (cI, 64, .inl (fun _ => 0))), (q52, .inl (cI, 64, .inl (fun _ => 0))), (q54, .inl (cI, 64, .inl (fun _ => 0))), (q55, .inl (cI, 64, .inl (fun _ => 0)))]) [0, 1, 10, 17, 24, 33, 39, 42, 56, 58, 59, 60, 2, 9, 11, 16, 18, 25, 31, 32, 34, 38, 40, 41, 43, 44, 45, 46, 57, 3, 4, 5, 6, 7, 8, 12, 13, 14, 15, 19, 20, 21, 22, 23, 26, 27, 28, 29, 30, 35, 36, 37, 47, 50, 53, 48, 49, 51, 52, 54, 55] rfl
  have hD := hD.sub (ws' := [(h0, .inr (7, [.ref q1, .ref q10, .ref q17, .ref q24, .ref q33, .ref q39, .ref q42, .ref q56, .ref q58, .ref q60, .ref q62])), (q1, .inr (3, [.int 40, .ref q2, .ref q9])), (q10, .inr (3, [.int 60, .ref q11, .ref q16])), (q17, .inr (2, [.ref q18, .int 0])), (q24, .inr (5, [.ref q25, .ref q31, .ref q32, .int 0, .int 0, .int 0, .int 0, .int 0])), (q33, .inr (3, [.int 40, .ref q34, .ref q38])), (q39, .inr (0, [.ref q40, .ref q41, .int 0, .int 0])), (q42, .inr (6, [.ref q43, .int 0, .ref q44, .ref q45, .ref q46, .int 0, .int 0, .int 0])), (q56, .inr (4, [.ref q57, .int 0, .int 0, .long 0, .long 1])), (q58, .inl (cI, 6, .inl (fun _ => 0))), (q60, .inl (cI, 6, .inl (fun _ => 0))), (q62, .inl (cI, 6, .inl (fun _ => 0))), (q2, .inl (cII, 6, .inr (.inr (.inr (.inr (fun j : Nat => ([q3, q4, q5, q6, q7, q8] : List Nat)[j]?)))))), (q9, .inl (cI, 6, .inl (fun j => if j < 6 then (-1) else 0))), (q11, .inl (cII, 4, .inr (.inr (.inr (.inr (fun j : Nat => ([q12, q13, q14, q15] : List Nat)[j]?)))))), (q16, .inl (cI, 4, .inl (fun j => if j < 4 then (-1) else 0))), (q18, .inr (1, [.ref q19, .ref q20, .ref q21, .ref q22, .ref q23, .int 0, .int 0])), (q25, .inr (1, [.ref q26, .ref q27, .ref q28, .ref q29, .ref q30, .int 0, .int 0])), (q31, .inl (cI, 40, .inl (fun _ => 0))), (q32, .inl (cI, 6, .inl (fun _ => 0))), (q34, .inl (cII, 3, .inr (.inr (.inr (.inr (fun j : Nat => ([q35, q36, q37] : List Nat)[j]?)))))), (q38, .inl (cI, 3, .inl (fun j => if j < 3 then (-1) else 0))), (q40, .inl (cI, 64, .inl (fun _ => 0))), (q41, .inl (cI, 64, .inl (fun _ => 0))), (q43, .inl (cI, 3, .inl (fun _ => 0))), (q44, .inl (cC, 3, .inr (.inr (.inr (.inr (va_up (va_up (va_up (fun _ => none) 0 (some q47)) 1 (some q50)) 2 (some q53))))))), (q45, .inl (cI, 4, .inl (fun _ => 0))), (q46, .inl (cI, 3, .inl (fun _ => 0))), (q57, .inl (cI, 6, .inl (fun _ => 0))), (q3, .inl (cI, 40, .inl (fun _ => 0))), (q4, .inl (cI, 40, .inl (fun _ => 0))), (q5, .inl (cI, 40, .inl (fun _ => 0))), (q6, .inl (cI, 40, .inl (fun _ => 0))), (q7, .inl (cI, 40, .inl (fun _ => 0))), (q8, .inl (cI, 40, .inl (fun _ => 0))), (q12, .inl (cI, 60, .inl (fun _ => 0))), (q13, .inl (cI, 60, .inl (fun _ => 0))), (q14, .inl (cI, 60, .inl (fun _ => 0))), (q15, .inl (cI, 60, .inl (fun _ => 0))), (q19, .inl (cI, 6, .inl (fun _ => 0))), (q20, .inl (cI, 6, .inl (fun _ => 0))), (q21, .inl (cI, 6, .inl (fun _ => 0))), (q22, .inl (cI, 6, .inl (fun _ => 0))), (q23, .inl (cI, 8, .inl (fun _ => 0))), (q26, .inl (cI, 6, .inl (fun _ => 0))), (q27, .inl (cI, 6, .inl (fun _ => 0))), (q28, .inl (cI, 6, .inl (fun _ => 0))), (q29, .inl (cI, 6, .inl (fun _ => 0))), (q30, .inl (cI, 8, .inl (fun _ => 0))), (q35, .inl (cI, 40, .inl (fun _ => 0))), (q36, .inl (cI, 40, .inl (fun _ => 0))), (q37, .inl (cI, 40, .inl (fun _ => 0))), (q47, .inr (0, [.ref q48, .ref q49, .int 0, .int 0])), (q50, .inr (0, [.ref q51, .ref q52, .int 0, .int 0])), (q53, .inr (0, [.ref q54, .ref q55, .int 0, .int 0])), (q48, .inl (cI, 64, .inl (fun _ => 0))), (q49, .inl (cI, 64, .inl (fun _ => 0))), (q51, .inl (cI, 64, .inl (fun _ => 0))), (q52, .inl (cI, 64, .inl (fun _ => 0))), (q54, .inl (cI, 64, .inl (fun _ => 0))), (q55, .inl (cI, 64, .inl (fun _ => 0)))]) [0, 1, 10, 17, 24, 33, 39, 42, 56, 58, 59, 60, 2, 9, 11, 16, 18, 25, 31, 32, 34, 38, 40, 41, 43, 44, 45, 46, 57, 3, 4, 5, 6, 7, 8, 12, 13, 14, 15, 19, 20, 21, 22, 23, 26, 27, 28, 29, 30, 35, 36, 37, 47, 50, 53, 48, 49, 51, 52, 54, 55] (by decide) rfl
  obtain ⟨r, er⟩ : ∃ r : Nat → Nat, r = fun k => ([h0, q1, q10, q17, q24, q33, q39, q42, q56, q58, q60, q62, q2, q9, q11, q16, q18, q25, q31, q32, q34, q38, q40, q41, q43, q44, q45, q46, q57, q3, q4, q5, q6, q7, q8, q12, q13, q14, q15, q19, q20, q21, q22, q23, q26, q27, q28, q29, q30, q35, q36, q37, q47, q50, q53, q48, q49, q51, q52, q54, q55] : List Nat).getD k 0 := ⟨_, rfl⟩
  have er12 : (fun j : Nat => ([q3, q4, q5, q6, q7, q8] : List Nat)[j]?) = fun j : Nat => (([29, 30, 31, 32, 33, 34] : List Nat)[j]?).map r := by
    rw [er]
    funext j
    match j with
    | 0 => rfl
    | 1 => rfl
    | 2 => rfl
    | 3 => rfl
    | 4 => rfl
    | 5 => rfl
    | j + 6 => simp [va_up]
  rw [er12] at hP hD
  have er14 : (fun j : Nat => ([q12, q13, q14, q15] : List Nat)[j]?) = fun j : Nat => (([35, 36, 37, 38] : List Nat)[j]?).map r := by
    rw [er]
    funext j
    match j with
    | 0 => rfl
    | 1 => rfl
    | 2 => rfl
    | 3 => rfl
    | j + 4 => simp [va_up]
  rw [er14] at hP hD
  have er20 : (fun j : Nat => ([q35, q36, q37] : List Nat)[j]?) = fun j : Nat => (([49, 50, 51] : List Nat)[j]?).map r := by
    rw [er]
    funext j
    match j with
    | 0 => rfl
    | 1 => rfl
    | 2 => rfl
    | j + 3 => simp [va_up]
  rw [er20] at hP hD
  have er25 : (va_up (va_up (va_up (fun _ => none) 0 (some q47)) 1 (some q50)) 2 (some q53)) = fun j : Nat => (([52, 53, 54] : List Nat)[j]?).map r := by
    rw [er]
    funext j
    match j with
    | 0 => rfl
    | 1 => rfl
    | 2 => rfl
    | j + 3 => simp [va_up]
  rw [er25] at hP hD
  have eW : kw_W (r, D, kc_cl cI cII cC) KX kc_SX = [(h0, .inr (7, [.ref q1, .ref q10, .ref q17, .ref q24, .ref q33, .ref q39, .ref q42, .ref q56, .ref q58, .ref q60, .ref q62])), (q1, .inr (3, [.int 40, .ref q2, .ref q9])), (q10, .inr (3, [.int 60, .ref q11, .ref q16])), (q17, .inr (2, [.ref q18, .int 0])), (q24, .inr (5, [.ref q25, .ref q31, .ref q32, .int 0, .int 0, .int 0, .int 0, .int 0])), (q33, .inr (3, [.int 40, .ref q34, .ref q38])), (q39, .inr (0, [.ref q40, .ref q41, .int 0, .int 0])), (q42, .inr (6, [.ref q43, .int 0, .ref q44, .ref q45, .ref q46, .int 0, .int 0, .int 0])), (q56, .inr (4, [.ref q57, .int 0, .int 0, .long 0, .long 1])), (q58, .inl (cI, 6, .inl (fun _ => 0))), (q60, .inl (cI, 6, .inl (fun _ => 0))), (q62, .inl (cI, 6, .inl (fun _ => 0))), (q2, .inl (cII, 6, .inr (.inr (.inr (.inr (fun j : Nat => (([29, 30, 31, 32, 33, 34] : List Nat)[j]?).map r)))))), (q9, .inl (cI, 6, .inl (fun j => if j < 6 then (-1) else 0))), (q11, .inl (cII, 4, .inr (.inr (.inr (.inr (fun j : Nat => (([35, 36, 37, 38] : List Nat)[j]?).map r)))))), (q16, .inl (cI, 4, .inl (fun j => if j < 4 then (-1) else 0))), (q18, .inr (1, [.ref q19, .ref q20, .ref q21, .ref q22, .ref q23, .int 0, .int 0])), (q25, .inr (1, [.ref q26, .ref q27, .ref q28, .ref q29, .ref q30, .int 0, .int 0])), (q31, .inl (cI, 40, .inl (fun _ => 0))), (q32, .inl (cI, 6, .inl (fun _ => 0))), (q34, .inl (cII, 3, .inr (.inr (.inr (.inr (fun j : Nat => (([49, 50, 51] : List Nat)[j]?).map r)))))), (q38, .inl (cI, 3, .inl (fun j => if j < 3 then (-1) else 0))), (q40, .inl (cI, 64, .inl (fun _ => 0))), (q41, .inl (cI, 64, .inl (fun _ => 0))), (q43, .inl (cI, 3, .inl (fun _ => 0))), (q44, .inl (cC, 3, .inr (.inr (.inr (.inr (fun j : Nat => (([52, 53, 54] : List Nat)[j]?).map r)))))), (q45, .inl (cI, 4, .inl (fun _ => 0))), (q46, .inl (cI, 3, .inl (fun _ => 0))), (q57, .inl (cI, 6, .inl (fun _ => 0))), (q3, .inl (cI, 40, .inl (fun _ => 0))), (q4, .inl (cI, 40, .inl (fun _ => 0))), (q5, .inl (cI, 40, .inl (fun _ => 0))), (q6, .inl (cI, 40, .inl (fun _ => 0))), (q7, .inl (cI, 40, .inl (fun _ => 0))), (q8, .inl (cI, 40, .inl (fun _ => 0))), (q12, .inl (cI, 60, .inl (fun _ => 0))), (q13, .inl (cI, 60, .inl (fun _ => 0))), (q14, .inl (cI, 60, .inl (fun _ => 0))), (q15, .inl (cI, 60, .inl (fun _ => 0))), (q19, .inl (cI, 6, .inl (fun _ => 0))), (q20, .inl (cI, 6, .inl (fun _ => 0))), (q21, .inl (cI, 6, .inl (fun _ => 0))), (q22, .inl (cI, 6, .inl (fun _ => 0))), (q23, .inl (cI, 8, .inl (fun _ => 0))), (q26, .inl (cI, 6, .inl (fun _ => 0))), (q27, .inl (cI, 6, .inl (fun _ => 0))), (q28, .inl (cI, 6, .inl (fun _ => 0))), (q29, .inl (cI, 6, .inl (fun _ => 0))), (q30, .inl (cI, 8, .inl (fun _ => 0))), (q35, .inl (cI, 40, .inl (fun _ => 0))), (q36, .inl (cI, 40, .inl (fun _ => 0))), (q37, .inl (cI, 40, .inl (fun _ => 0))), (q47, .inr (0, [.ref q48, .ref q49, .int 0, .int 0])), (q50, .inr (0, [.ref q51, .ref q52, .int 0, .int 0])), (q53, .inr (0, [.ref q54, .ref q55, .int 0, .int 0])), (q48, .inl (cI, 64, .inl (fun _ => 0))), (q49, .inl (cI, 64, .inl (fun _ => 0))), (q51, .inl (cI, 64, .inl (fun _ => 0))), (q52, .inl (cI, 64, .inl (fun _ => 0))), (q54, .inl (cI, 64, .inl (fun _ => 0))), (q55, .inl (cI, 64, .inl (fun _ => 0)))] := by
    rw [kc_Weq, er]
    rfl
  rw [← eW] at hP hD
  exact W.vret hx hb hr (fun t ht hW => ⟨⟨(), rfl, trivial, r, by rw [er]; rfl, by rw [ht]; exact hP, hD⟩, hS.F ht⟩) hS.2.2 dX7_init_126
end
