set_option maxHeartbeats 4000000 in
set_option maxRecDepth 100000 in
theorem k_X3_init_6_40 (l : Launch) (D : va_G) (cI cII cC : ClassId) (h0 sz : Nat) : Met l yX3_init (.code yX3_init cX3_init 3 none :: kw_ws) (kc_rm 2 8 252) (kc_Pre D cI cII cC sz [.ref h0, .int 6, .int 40] [(h0, .inr (3, [.int 0, .null, .null]))]) (va_Qv (fun _ : Unit => True) (fun _ t => ∃ q1 q4 q5 q6 q7 q8 q9 q10 : Nat, va_P D vwCl [(h0, .inr (3, [.int 40, .ref q1, .ref q10])), (q1, .inl (cII, 6, .inr (.inr (.inr (.inr (fun j : Nat => ([q4, q5, q6, q7, q8, q9] : List Nat)[j]?)))))), (q4, .inl (cI, 40, .inl (fun _ => 0))), (q5, .inl (cI, 40, .inl (fun _ => 0))), (q6, .inl (cI, 40, .inl (fun _ => 0))), (q7, .inl (cI, 40, .inl (fun _ => 0))), (q8, .inl (cI, 40, .inl (fun _ => 0))), (q9, .inl (cI, 40, .inl (fun _ => 0))), (q10, .inl (cI, 6, .inl (fun j => if j < 6 then (-1) else 0)))] t.heap ∧ va_D (va_A [(h0, .inr (3, [.int 0, .null, .null]))] sz) [(h0, .inr (3, [.int 40, .ref q1, .ref q10])), (q1, .inl (cII, 6, .inr (.inr (.inr (.inr (fun j : Nat => ([q4, q5, q6, q7, q8, q9] : List Nat)[j]?)))))), (q4, .inl (cI, 40, .inl (fun _ => 0))), (q5, .inl (cI, 40, .inl (fun _ => 0))), (q6, .inl (cI, 40, .inl (fun _ => 0))), (q7, .inl (cI, 40, .inl (fun _ => 0))), (q8, .inl (cI, 40, .inl (fun _ => 0))), (q9, .inl (cI, 40, .inl (fun _ => 0))), (q10, .inl (cI, 6, .inl (fun j => if j < 6 then (-1) else 0)))]) (va_A [(h0, .inr (3, [.int 0, .null, .null]))] sz)) 8 252 (va_A [(h0, .inr (3, [.int 0, .null, .null]))] sz) := by
  refine Met.ofW (cc := cX3_init) (maxL := 3) (ret := none) (by decide) rfl ?_
  intro p e s m args below meth c s₁ B hml hv
  obtain ⟨rfl, hsz, hP, hK, hD0, hSt⟩ := hv
  have hx := B.exec
  have hb := B.bytes
  have hr := B.returns
  have hts := atoms_spec (ws := .code yX3_init cX3_init 3 none :: kw_ws) B.pre
  have htk := fun w (hw : w ∈ kw_ws) => hts w (List.mem_cons_of_mem _ hw)
  have hown : s.vm.findClass RX3 = some m.cls := findClass_of_methodNamed B.named
  have hlocks := B.notSynchronized
  have hin : meth.name = "<init>" := (name_of_methodNamed B.named B.method).1
  subst hsz
  have hD := hD0.self (sz := s.heap.size)
  generalize hAe : va_A [(h0, .inr (3, [.int 0, .null, .null]))] s.heap.size = A at hD ⊢
  have hA : ∀ q : Nat, s.heap.size ≤ q → A q := fun q h => by rw [← hAe]; exact Or.inr h
  have hS : va_S A s.heap s.heap [] := va_S.rf
  have hP : va_P D vwCl [(h0, .inr (3, [.int 0, .null, .null]))] s.heap := hP
  have hl := lv_entry ([.ref h0, .int 6, .int 40]) (n := 3) (Nat.le_of_ble_eq_true rfl)
  rw [lg_entry_eq]
  generalize (lg_sl ([.ref h0, .int 6, .int 40]) ++ List.replicate (3 - (lg_sl ([.ref h0, .int 6, .int 40])).length) Slot.unset).toArray = ls at hl ⊢
  have hl : lv_has ls 3 [(0, .ref h0), (1, .int 6), (2, .int 40)] := hl
  refine lv_aload_n hx hb dX3_init_0 rfl (lv_at hl 0 rfl) ?_
  refine W.objInit hx hb hown (htk _ kmX3_3) (htk _ wIObj) (htk _ wCObj) rfl (by rw [hml]; exact hl.1) rfl dX3_init_1 (Nat.le_of_ble_eq_true rfl) (Nat.le_of_ble_eq_true rfl) ?_
  refine W.eq (g2 := F0 m 4 ls []) rfl ?_
  refine lv_aload_n hx hb dX3_init_4 rfl (lv_at hl 0 rfl) ?_
  refine lv_iload_n hx hb dX3_init_5 rfl (lv_at hl 2 rfl) ?_
  refine va_putF (D := D) (ci := 3) (v := .int 40) (ty := .int) (C := RX3) (T := TX3) (N := 3) hx hb htk inW3 tyX3 tyX3_ok nmX3 hown hK hP hD hS 0 rfl rfl 0 (by decide) (htk _ kfX3_9) (fun _ h9 => h9) rfl hin rfl (by decide +kernel) rfl rfl (Nat.le_of_ble_eq_true rfl) dX3_init_6 (fun H locs hP hD hS => ?_)
  have hP : va_P D vwCl [(h0, .inr (3, [.int 40, .null, .null]))] H := hP
  have hD : va_D A [(h0, .inr (3, [.int 40, .null, .null]))] := hD
  refine lv_aload_n hx hb dX3_init_9 rfl (lv_at hl 0 rfl) ?_
  refine lv_iload_n hx hb dX3_init_10 rfl (lv_at hl 1 rfl) ?_
  refine lv_iload_n hx hb dX3_init_11 rfl (lv_at hl 2 rfl) ?_
  refine kc_mna (cy := cI) hx hb hown (htk _ kcX3_15) hSt.2.2 (htk _ wArr) (hK.2 0 _ rfl).2 hK hP hD hS hA 6 40 (by decide) (by decide) rfl rfl (by decide) (by decide) (by decide) (Nat.le_of_ble_eq_true rfl) (Nat.le_of_ble_eq_true rfl) dX3_init_12 (fun q1 r2 c3 H hK1 hP hD hS => ?_)
  obtain rfl : cII = c3 := kc_same2 hK1 1 3 rfl rfl
  have hP : va_P D vwCl [(h0, .inr (3, [.int 40, .null, .null])), (q1, .inl (cII, 6, .inr (.inr (.inr (.inr (fun i => if i < 6 then some (r2 i) else none)))))), (r2 0, .inl (cI, 40, .inl (fun _ => 0))), (r2 1, .inl (cI, 40, .inl (fun _ => 0))), (r2 2, .inl (cI, 40, .inl (fun _ => 0))), (r2 3, .inl (cI, 40, .inl (fun _ => 0))), (r2 4, .inl (cI, 40, .inl (fun _ => 0))), (r2 5, .inl (cI, 40, .inl (fun _ => 0)))] H := hP
  have hD : va_D A [(h0, .inr (3, [.int 40, .null, .null])), (q1, .inl (cII, 6, .inr (.inr (.inr (.inr (fun i => if i < 6 then some (r2 i) else none)))))), (r2 0, .inl (cI, 40, .inl (fun _ => 0))), (r2 1, .inl (cI, 40, .inl (fun _ => 0))), (r2 2, .inl (cI, 40, .inl (fun _ => 0))), (r2 3, .inl (cI, 40, .inl (fun _ => 0))), (r2 4, .inl (cI, 40, .inl (fun _ => 0))), (r2 5, .inl (cI, 40, .inl (fun _ => 0)))] := hD
  have hf : (fun i => if i < 6 then some (r2 i) else none) = (fun j : Nat => ([r2 0, r2 1, r2 2, r2 3, r2 4, r2 5] : List Nat)[j]?) := by
    funext j
    match j with
    | 0 => rfl
    | 1 => rfl
    | 2 => rfl
    | 3 => rfl
    | 4 => rfl
    | 5 => rfl
    | j + 6 => simp
  rw [hf] at hP hD
  clear hf
  generalize r2 0 = q4 at hP hD
  generalize r2 1 = q5 at hP hD
  generalize r2 2 = q6 at hP hD
  generalize r2 3 = q7 at hP hD
  generalize r2 4 = q8 at hP hD
  generalize r2 5 = q9 at hP hD
  have hP : va_P D vwCl [(h0, .inr (3, [.int 40, .null, .null])), (q1, .inl (cII, 6, .inr (.inr (.inr (.inr (fun j : Nat => ([q4, q5, q6, q7, q8, q9] : List Nat)[j]?)))))), (q4, .inl (cI, 40, .inl (fun _ => 0))), (q5, .inl (cI, 40, .inl (fun _ => 0))), (q6, .inl (cI, 40, .inl (fun _ => 0))), (q7, .inl (cI, 40, .inl (fun _ => 0))), (q8, .inl (cI, 40, .inl (fun _ => 0))), (q9, .inl (cI, 40, .inl (fun _ => 0)))] H := hP
  have hD : va_D A [(h0, .inr (3, [.int 40, .null, .null])), (q1, .inl (cII, 6, .inr (.inr (.inr (.inr (fun j : Nat => ([q4, q5, q6, q7, q8, q9] : List Nat)[j]?)))))), (q4, .inl (cI, 40, .inl (fun _ => 0))), (q5, .inl (cI, 40, .inl (fun _ => 0))), (q6, .inl (cI, 40, .inl (fun _ => 0))), (q7, .inl (cI, 40, .inl (fun _ => 0))), (q8, .inl (cI, 40, .inl (fun _ => 0))), (q9, .inl (cI, 40, .inl (fun _ => 0)))] := hD
  refine W.widen (k := 7) (n := 246) (Nat.le_of_ble_eq_true rfl) (Nat.le_of_ble_eq_true rfl) ?_
  refine va_putF (D := D) (ci := 3) (v := .ref q1) (ty := .array (.array .int)) (C := RX3) (T := TX3) (N := 3) hx hb htk inW3 tyX3 tyX3_ok nmX3 hown hK hP hD hS 0 rfl rfl 1 (by decide) (htk _ kfX3_17) (fun _ h9 => h9) rfl hin rfl (by decide +kernel) rfl rfl (Nat.le_of_ble_eq_true rfl) dX3_init_16 (fun H locs hP hD hS => ?_)
  have hP : va_P D vwCl [(h0, .inr (3, [.int 40, .ref q1, .null])), (q1, .inl (cII, 6, .inr (.inr (.inr (.inr (fun j : Nat => ([q4, q5, q6, q7, q8, q9] : List Nat)[j]?)))))), (q4, .inl (cI, 40, .inl (fun _ => 0))), (q5, .inl (cI, 40, .inl (fun _ => 0))), (q6, .inl (cI, 40, .inl (fun _ => 0))), (q7, .inl (cI, 40, .inl (fun _ => 0))), (q8, .inl (cI, 40, .inl (fun _ => 0))), (q9, .inl (cI, 40, .inl (fun _ => 0)))] H := hP
  have hD : va_D A [(h0, .inr (3, [.int 40, .ref q1, .null])), (q1, .inl (cII, 6, .inr (.inr (.inr (.inr (fun j : Nat => ([q4, q5, q6, q7, q8, q9] : List Nat)[j]?)))))), (q4, .inl (cI, 40, .inl (fun _ => 0))), (q5, .inl (cI, 40, .inl (fun _ => 0))), (q6, .inl (cI, 40, .inl (fun _ => 0))), (q7, .inl (cI, 40, .inl (fun _ => 0))), (q8, .inl (cI, 40, .inl (fun _ => 0))), (q9, .inl (cI, 40, .inl (fun _ => 0)))] := hD
  refine lv_aload_n hx hb dX3_init_19 rfl (lv_at hl 0 rfl) ?_
  refine lv_iload_n hx hb dX3_init_20 rfl (lv_at hl 1 rfl) ?_
  refine va_newa (atype := .int) (ty := .int) (a0 := (6, .inl (fun _ => 0))) (N' := 6) hx hb (htk _ wArr) rfl hK hP hD hS hA (fun _ => rfl) (by decide) rfl (by decide) (Nat.le_of_ble_eq_true rfl) (Nat.le_of_ble_eq_true rfl) dX3_init_21 (fun q10 c11 H hK1 hP hD hS => ?_)
  obtain rfl : cI = c11 := kc_same hK1 0 3 rfl rfl
  have hP : va_P D vwCl [(h0, .inr (3, [.int 40, .ref q1, .null])), (q1, .inl (cII, 6, .inr (.inr (.inr (.inr (fun j : Nat => ([q4, q5, q6, q7, q8, q9] : List Nat)[j]?)))))), (q4, .inl (cI, 40, .inl (fun _ => 0))), (q5, .inl (cI, 40, .inl (fun _ => 0))), (q6, .inl (cI, 40, .inl (fun _ => 0))), (q7, .inl (cI, 40, .inl (fun _ => 0))), (q8, .inl (cI, 40, .inl (fun _ => 0))), (q9, .inl (cI, 40, .inl (fun _ => 0))), (q10, .inl (cI, 6, .inl (fun _ => 0)))] H := hP
  have hD : va_D A [(h0, .inr (3, [.int 40, .ref q1, .null])), (q1, .inl (cII, 6, .inr (.inr (.inr (.inr (fun j : Nat => ([q4, q5, q6, q7, q8, q9] : List Nat)[j]?)))))), (q4, .inl (cI, 40, .inl (fun _ => 0))), (q5, .inl (cI, 40, .inl (fun _ => 0))), (q6, .inl (cI, 40, .inl (fun _ => 0))), (q7, .inl (cI, 40, .inl (fun _ => 0))), (q8, .inl (cI, 40, .inl (fun _ => 0))), (q9, .inl (cI, 40, .inl (fun _ => 0))), (q10, .inl (cI, 6, .inl (fun _ => 0)))] := hD
  refine W.widen (k := 8) (n := 252) (Nat.le_of_ble_eq_true rfl) (Nat.le_of_ble_eq_true rfl) ?_
  refine va_putF (D := D) (ci := 3) (v := .ref q10) (ty := .array .int) (C := RX3) (T := TX3) (N := 3) hx hb htk inW3 tyX3 tyX3_ok nmX3 hown hK hP hD hS 0 rfl rfl 2 (by decide) (htk _ kfX3_20) (fun _ h9 => h9) rfl hin rfl (by decide +kernel) rfl rfl (Nat.le_of_ble_eq_true rfl) dX3_init_23 (fun H locs hP hD hS => ?_)
  have hP : va_P D vwCl [(h0, .inr (3, [.int 40, .ref q1, .ref q10])), (q1, .inl (cII, 6, .inr (.inr (.inr (.inr (fun j : Nat => ([q4, q5, q6, q7, q8, q9] : List Nat)[j]?)))))), (q4, .inl (cI, 40, .inl (fun _ => 0))), (q5, .inl (cI, 40, .inl (fun _ => 0))), (q6, .inl (cI, 40, .inl (fun _ => 0))), (q7, .inl (cI, 40, .inl (fun _ => 0))), (q8, .inl (cI, 40, .inl (fun _ => 0))), (q9, .inl (cI, 40, .inl (fun _ => 0))), (q10, .inl (cI, 6, .inl (fun _ => 0)))] H := hP
  have hD : va_D A [(h0, .inr (3, [.int 40, .ref q1, .ref q10])), (q1, .inl (cII, 6, .inr (.inr (.inr (.inr (fun j : Nat => ([q4, q5, q6, q7, q8, q9] : List Nat)[j]?)))))), (q4, .inl (cI, 40, .inl (fun _ => 0))), (q5, .inl (cI, 40, .inl (fun _ => 0))), (q6, .inl (cI, 40, .inl (fun _ => 0))), (q7, .inl (cI, 40, .inl (fun _ => 0))), (q8, .inl (cI, 40, .inl (fun _ => 0))), (q9, .inl (cI, 40, .inl (fun _ => 0))), (q10, .inl (cI, 6, .inl (fun _ => 0)))] := hD
  refine lv_aload_n hx hb dX3_init_26 rfl (lv_at hl 0 rfl) ?_
  refine va_get (D := D) (ci := 3) (v := .ref q10) (C := RX3) (T := TX3) (N := 3) hx hb htk inW3 hown hK hP 0 rfl rfl 2 (by decide) (htk _ kfX3_20) (fun _ h9 => h9) rfl dX3_init_27 ?_
  refine lv_iconst (v := (-1)) hx hb dX3_init_30 (by decide) ?_
  have hPc := hP.sub (ws' := [(q10, .inl (cI, 6, .inl (fun _ => 0)))]) [8] rfl
  have hDc := hD.sub (ws' := [(q10, .inl (cI, 6, .inl (fun _ => 0)))]) [8] (by decide) rfl
  have hFc := va_free (wc := [(q10, .inl (cI, 6, .inl (fun _ => 0)))]) hD hS hA [8] rfl
  refine va_callv (va_runS (As := [.ref q10, .int (-1)]) (rest := []) ⟨hx, hb, hml, hown, htk⟩ (k_fill l D cI cII cC q10 H.size 6 (by decide) (fun _ => 0) (-1)) (va_cwS 2 htk (kw_goodS lsX3_24) rfl rfl rfl (by decide +kernel) ⟨Nat.le_of_ble_eq_true rfl, Nat.le_of_ble_eq_true rfl⟩) ⟨kc_blind, fun U hU hW => ⟨rfl, by rw [hU], by rw [hU]; exact hPc, va_K.moved hW.alike hK, hDc.weaken (fun _ _ _ _ => trivial), hSt.next hW⟩⟩ rfl rfl hl.1 rfl (lv_room (Nat.le_of_ble_eq_true rfl)) dX3_init_31 ⟨Nat.le_of_ble_eq_true rfl, Nat.le_of_ble_eq_true rfl⟩) hS (fun q _ h => hFc q h) hFc (fun u t H1 locs ht hvm hw hB hz1 hk1 hS => ?_)
  obtain ⟨hP1, hD1⟩ := hB
  rw [ht] at hP1
  rw [hw] at hP1 hD1
  obtain ⟨hP, hD⟩ := va_join (wr := [(h0, .inr (3, [.int 40, .ref q1, .ref q10])), (q1, .inl (cII, 6, .inr (.inr (.inr (.inr (fun j : Nat => ([q4, q5, q6, q7, q8, q9] : List Nat)[j]?)))))), (q4, .inl (cI, 40, .inl (fun _ => 0))), (q5, .inl (cI, 40, .inl (fun _ => 0))), (q6, .inl (cI, 40, .inl (fun _ => 0))), (q7, .inl (cI, 40, .inl (fun _ => 0))), (q8, .inl (cI, 40, .inl (fun _ => 0))), (q9, .inl (cI, 40, .inl (fun _ => 0)))]) (w1 := [(q10, .inl (cI, 6, .inl (fun j => if j < 6 then (-1) else 0)))]) hP hD [8] [0, 1, 2, 3, 4, 5, 6, 7] rfl rfl (by decide) (by decide) hk1 hFc hP1 hD1
  generalize H1 = H at hP hS ⊢
  have hP : va_P D vwCl [(h0, .inr (3, [.int 40, .ref q1, .ref q10])), (q1, .inl (cII, 6, .inr (.inr (.inr (.inr (fun j : Nat => ([q4, q5, q6, q7, q8, q9] : List Nat)[j]?)))))), (q4, .inl (cI, 40, .inl (fun _ => 0))), (q5, .inl (cI, 40, .inl (fun _ => 0))), (q6, .inl (cI, 40, .inl (fun _ => 0))), (q7, .inl (cI, 40, .inl (fun _ => 0))), (q8, .inl (cI, 40, .inl (fun _ => 0))), (q9, .inl (cI, 40, .inl (fun _ => 0))), (q10, .inl (cI, 6, .inl (fun j => if j < 6 then (-1) else 0)))] H := hP
  have hD : va_D A [(h0, .inr (3, [.int 40, .ref q1, .ref q10])), (q1, .inl (cII, 6, .inr (.inr (.inr (.inr (fun j : Nat => ([q4, q5, q6, q7, q8, q9] : List Nat)[j]?)))))), (q4, .inl (cI, 40, .inl (fun _ => 0))), (q5, .inl (cI, 40, .inl (fun _ => 0))), (q6, .inl (cI, 40, .inl (fun _ => 0))), (q7, .inl (cI, 40, .inl (fun _ => 0))), (q8, .inl (cI, 40, .inl (fun _ => 0))), (q9, .inl (cI, 40, .inl (fun _ => 0))), (q10, .inl (cI, 6, .inl (fun j => if j < 6 then (-1) else 0)))] := hD
  refine W.widen (k := 8) (n := 252) (Nat.le_of_ble_eq_true rfl) (Nat.le_of_ble_eq_true rfl) ?_
  exact W.vret hx hb hr (fun t ht hW => ⟨⟨(), rfl, trivial, q1, q4, q5, q6, q7, q8, q9, q10, by rw [ht]; exact hP, hD⟩, hS.F ht⟩) hS.2.2 dX3_init_34
set_option maxHeartbeats 4000000 in
set_option maxRecDepth 100000 in
theorem k_X3_init_4_60 (l : Launch) (D : va_G) (cI cII cC : ClassId) (h0 sz : Nat) : Met l yX3_init (.code yX3_init cX3_init 3 none :: kw_ws) (kc_rm 2 6 248) (kc_Pre D cI cII cC sz [.ref h0, .int 4, .int 60] [(h0, .inr (3, [.int 0, .null, .null]))]) (va_Qv (fun _ : Unit => True) (fun _ t => ∃ q1 q4 q5 q6 q7 q8 : Nat, va_P D vwCl [(h0, .inr (3, [.int 60, .ref q1, .ref q8])), (q1, .inl (cII, 4, .inr (.inr (.inr (.inr (fun j : Nat => ([q4, q5, q6, q7] : List Nat)[j]?)))))), (q4, .inl (cI, 60, .inl (fun _ => 0))), (q5, .inl (cI, 60, .inl (fun _ => 0))), (q6, .inl (cI, 60, .inl (fun _ => 0))), (q7, .inl (cI, 60, .inl (fun _ => 0))), (q8, .inl (cI, 4, .inl (fun j => if j < 4 then (-1) else 0)))] t.heap ∧ va_D (va_A [(h0, .inr (3, [.int 0, .null, .null]))] sz) [(h0, .inr (3, [.int 60, .ref q1, .ref q8])), (q1, .inl (cII, 4, .inr (.inr (.inr (.inr (fun j : Nat => ([q4, q5, q6, q7] : List Nat)[j]?)))))), (q4, .inl (cI, 60, .inl (fun _ => 0))), (q5, .inl (cI, 60, .inl (fun _ => 0))), (q6, .inl (cI, 60, .inl (fun _ => 0))), (q7, .inl (cI, 60, .inl (fun _ => 0))), (q8, .inl (cI, 4, .inl (fun j => if j < 4 then (-1) else 0)))]) (va_A [(h0, .inr (3, [.int 0, .null, .null]))] sz)) 6 248 (va_A [(h0, .inr (3, [.int 0, .null, .null]))] sz) := by
  refine Met.ofW (cc := cX3_init) (maxL := 3) (ret := none) (by decide) rfl ?_
  intro p e s m args below meth c s₁ B hml hv
  obtain ⟨rfl, hsz, hP, hK, hD0, hSt⟩ := hv
  have hx := B.exec
  have hb := B.bytes
  have hr := B.returns
  have hts := atoms_spec (ws := .code yX3_init cX3_init 3 none :: kw_ws) B.pre
  have htk := fun w (hw : w ∈ kw_ws) => hts w (List.mem_cons_of_mem _ hw)
  have hown : s.vm.findClass RX3 = some m.cls := findClass_of_methodNamed B.named
  have hlocks := B.notSynchronized
  have hin : meth.name = "<init>" := (name_of_methodNamed B.named B.method).1
  subst hsz
  have hD := hD0.self (sz := s.heap.size)
  generalize hAe : va_A [(h0, .inr (3, [.int 0, .null, .null]))] s.heap.size = A at hD ⊢
  have hA : ∀ q : Nat, s.heap.size ≤ q → A q := fun q h => by rw [← hAe]; exact Or.inr h
  have hS : va_S A s.heap s.heap [] := va_S.rf
  have hP : va_P D vwCl [(h0, .inr (3, [.int 0, .null, .null]))] s.heap := hP
  have hl := lv_entry ([.ref h0, .int 4, .int 60]) (n := 3) (Nat.le_of_ble_eq_true rfl)
  rw [lg_entry_eq]
  generalize (lg_sl ([.ref h0, .int 4, .int 60]) ++ List.replicate (3 - (lg_sl ([.ref h0, .int 4, .int 60])).length) Slot.unset).toArray = ls at hl ⊢
  have hl : lv_has ls 3 [(0, .ref h0), (1, .int 4), (2, .int 60)] := hl
  refine lv_aload_n hx hb dX3_init_0 rfl (lv_at hl 0 rfl) ?_
  refine W.objInit hx hb hown (htk _ kmX3_3) (htk _ wIObj) (htk _ wCObj) rfl (by rw [hml]; exact hl.1) rfl dX3_init_1 (Nat.le_of_ble_eq_true rfl) (Nat.le_of_ble_eq_true rfl) ?_
  refine W.eq (g2 := F0 m 4 ls []) rfl ?_
  refine lv_aload_n hx hb dX3_init_4 rfl (lv_at hl 0 rfl) ?_
  refine lv_iload_n hx hb dX3_init_5 rfl (lv_at hl 2 rfl) ?_
  refine va_putF (D := D) (ci := 3) (v := .int 60) (ty := .int) (C := RX3) (T := TX3) (N := 3) hx hb htk inW3 tyX3 tyX3_ok nmX3 hown hK hP hD hS 0 rfl rfl 0 (by decide) (htk _ kfX3_9) (fun _ h9 => h9) rfl hin rfl (by decide +kernel) rfl rfl (Nat.le_of_ble_eq_true rfl) dX3_init_6 (fun H locs hP hD hS => ?_)
  have hP : va_P D vwCl [(h0, .inr (3, [.int 60, .null, .null]))] H := hP
  have hD : va_D A [(h0, .inr (3, [.int 60, .null, .null]))] := hD
  refine lv_aload_n hx hb dX3_init_9 rfl (lv_at hl 0 rfl) ?_
  refine lv_iload_n hx hb dX3_init_10 rfl (lv_at hl 1 rfl) ?_
  refine lv_iload_n hx hb dX3_init_11 rfl (lv_at hl 2 rfl) ?_
  refine kc_mna (cy := cI) hx hb hown (htk _ kcX3_15) hSt.2.2 (htk _ wArr) (hK.2 0 _ rfl).2 hK hP hD hS hA 4 60 (by decide) (by decide) rfl rfl (by decide) (by decide) (by decide) (Nat.le_of_ble_eq_true rfl) (Nat.le_of_ble_eq_true rfl) dX3_init_12 (fun q1 r2 c3 H hK1 hP hD hS => ?_)
  obtain rfl : cII = c3 := kc_same2 hK1 1 3 rfl rfl
  have hP : va_P D vwCl [(h0, .inr (3, [.int 60, .null, .null])), (q1, .inl (cII, 4, .inr (.inr (.inr (.inr (fun i => if i < 4 then some (r2 i) else none)))))), (r2 0, .inl (cI, 60, .inl (fun _ => 0))), (r2 1, .inl (cI, 60, .inl (fun _ => 0))), (r2 2, .inl (cI, 60, .inl (fun _ => 0))), (r2 3, .inl (cI, 60, .inl (fun _ => 0)))] H := hP
  have hD : va_D A [(h0, .inr (3, [.int 60, .null, .null])), (q1, .inl (cII, 4, .inr (.inr (.inr (.inr (fun i => if i < 4 then some (r2 i) else none)))))), (r2 0, .inl (cI, 60, .inl (fun _ => 0))), (r2 1, .inl (cI, 60, .inl (fun _ => 0))), (r2 2, .inl (cI, 60, .inl (fun _ => 0))), (r2 3, .inl (cI, 60, .inl (fun _ => 0)))] := hD
  have hf : (fun i => if i < 4 then some (r2 i) else none) = (fun j : Nat => ([r2 0, r2 1, r2 2, r2 3] : List Nat)[j]?) := by
    funext j
    match j with
    | 0 => rfl
    | 1 => rfl
    | 2 => rfl
    | 3 => rfl
    | j + 4 => simp
  rw [hf] at hP hD
  clear hf
  generalize r2 0 = q4 at hP hD
  generalize r2 1 = q5 at hP hD
  generalize r2 2 = q6 at hP hD
  generalize r2 3 = q7 at hP hD
  have hP : va_P D vwCl [(h0, .inr (3, [.int 60, .null, .null])), (q1, .inl (cII, 4, .inr (.inr (.inr (.inr (fun j : Nat => ([q4, q5, q6, q7] : List Nat)[j]?)))))), (q4, .inl (cI, 60, .inl (fun _ => 0))), (q5, .inl (cI, 60, .inl (fun _ => 0))), (q6, .inl (cI, 60, .inl (fun _ => 0))), (q7, .inl (cI, 60, .inl (fun _ => 0)))] H := hP
  have hD : va_D A [(h0, .inr (3, [.int 60, .null, .null])), (q1, .inl (cII, 4, .inr (.inr (.inr (.inr (fun j : Nat => ([q4, q5, q6, q7] : List Nat)[j]?)))))), (q4, .inl (cI, 60, .inl (fun _ => 0))), (q5, .inl (cI, 60, .inl (fun _ => 0))), (q6, .inl (cI, 60, .inl (fun _ => 0))), (q7, .inl (cI, 60, .inl (fun _ => 0)))] := hD
  refine W.widen (k := 5) (n := 244) (Nat.le_of_ble_eq_true rfl) (Nat.le_of_ble_eq_true rfl) ?_
  refine va_putF (D := D) (ci := 3) (v := .ref q1) (ty := .array (.array .int)) (C := RX3) (T := TX3) (N := 3) hx hb htk inW3 tyX3 tyX3_ok nmX3 hown hK hP hD hS 0 rfl rfl 1 (by decide) (htk _ kfX3_17) (fun _ h9 => h9) rfl hin rfl (by decide +kernel) rfl rfl (Nat.le_of_ble_eq_true rfl) dX3_init_16 (fun H locs hP hD hS => ?_)
  have hP : va_P D vwCl [(h0, .inr (3, [.int 60, .ref q1, .null])), (q1, .inl (cII, 4, .inr (.inr (.inr (.inr (fun j : Nat => ([q4, q5, q6, q7] : List Nat)[j]?)))))), (q4, .inl (cI, 60, .inl (fun _ => 0))), (q5, .inl (cI, 60, .inl (fun _ => 0))), (q6, .inl (cI, 60, .inl (fun _ => 0))), (q7, .inl (cI, 60, .inl (fun _ => 0)))] H := hP
  have hD : va_D A [(h0, .inr (3, [.int 60, .ref q1, .null])), (q1, .inl (cII, 4, .inr (.inr (.inr (.inr (fun j : Nat => ([q4, q5, q6, q7] : List Nat)[j]?)))))), (q4, .inl (cI, 60, .inl (fun _ => 0))), (q5, .inl (cI, 60, .inl (fun _ => 0))), (q6, .inl (cI, 60, .inl (fun _ => 0))), (q7, .inl (cI, 60, .inl (fun _ => 0)))] := hD
  refine lv_aload_n hx hb dX3_init_19 rfl (lv_at hl 0 rfl) ?_
  refine lv_iload_n hx hb dX3_init_20 rfl (lv_at hl 1 rfl) ?_
  refine va_newa (atype := .int) (ty := .int) (a0 := (4, .inl (fun _ => 0))) (N' := 4) hx hb (htk _ wArr) rfl hK hP hD hS hA (fun _ => rfl) (by decide) rfl (by decide) (Nat.le_of_ble_eq_true rfl) (Nat.le_of_ble_eq_true rfl) dX3_init_21 (fun q8 c9 H hK1 hP hD hS => ?_)
  obtain rfl : cI = c9 := kc_same hK1 0 3 rfl rfl
  have hP : va_P D vwCl [(h0, .inr (3, [.int 60, .ref q1, .null])), (q1, .inl (cII, 4, .inr (.inr (.inr (.inr (fun j : Nat => ([q4, q5, q6, q7] : List Nat)[j]?)))))), (q4, .inl (cI, 60, .inl (fun _ => 0))), (q5, .inl (cI, 60, .inl (fun _ => 0))), (q6, .inl (cI, 60, .inl (fun _ => 0))), (q7, .inl (cI, 60, .inl (fun _ => 0))), (q8, .inl (cI, 4, .inl (fun _ => 0)))] H := hP
  have hD : va_D A [(h0, .inr (3, [.int 60, .ref q1, .null])), (q1, .inl (cII, 4, .inr (.inr (.inr (.inr (fun j : Nat => ([q4, q5, q6, q7] : List Nat)[j]?)))))), (q4, .inl (cI, 60, .inl (fun _ => 0))), (q5, .inl (cI, 60, .inl (fun _ => 0))), (q6, .inl (cI, 60, .inl (fun _ => 0))), (q7, .inl (cI, 60, .inl (fun _ => 0))), (q8, .inl (cI, 4, .inl (fun _ => 0)))] := hD
  refine W.widen (k := 6) (n := 248) (Nat.le_of_ble_eq_true rfl) (Nat.le_of_ble_eq_true rfl) ?_
  refine va_putF (D := D) (ci := 3) (v := .ref q8) (ty := .array .int) (C := RX3) (T := TX3) (N := 3) hx hb htk inW3 tyX3 tyX3_ok nmX3 hown hK hP hD hS 0 rfl rfl 2 (by decide) (htk _ kfX3_20) (fun _ h9 => h9) rfl hin rfl (by decide +kernel) rfl rfl (Nat.le_of_ble_eq_true rfl) dX3_init_23 (fun H locs hP hD hS => ?_)
  have hP : va_P D vwCl [(h0, .inr (3, [.int 60, .ref q1, .ref q8])), (q1, .inl (cII, 4, .inr (.inr (.inr (.inr (fun j : Nat => ([q4, q5, q6, q7] : List Nat)[j]?)))))), (q4, .inl (cI, 60, .inl (fun _ => 0))), (q5, .inl (cI, 60, .inl (fun _ => 0))), (q6, .inl (cI, 60, .inl (fun _ => 0))), (q7, .inl (cI, 60, .inl (fun _ => 0))), (q8, .inl (cI, 4, .inl (fun _ => 0)))] H := hP
  have hD : va_D A [(h0, .inr (3, [.int 60, .ref q1, .ref q8])), (q1, .inl (cII, 4, .inr (.inr (.inr (.inr (fun j : Nat => ([q4, q5, q6, q7] : List Nat)[j]?)))))), (q4, .inl (cI, 60, .inl (fun _ => 0))), (q5, .inl (cI, 60, .inl (fun _ => 0))), (q6, .inl (cI, 60, .inl (fun _ => 0))), (q7, .inl (cI, 60, .inl (fun _ => 0))), (q8, .inl (cI, 4, .inl (fun _ => 0)))] := hD
  refine lv_aload_n hx hb dX3_init_26 rfl (lv_at hl 0 rfl) ?_
  refine va_get (D := D) (ci := 3) (v := .ref q8) (C := RX3) (T := TX3) (N := 3) hx hb htk inW3 hown hK hP 0 rfl rfl 2 (by decide) (htk _ kfX3_20) (fun _ h9 => h9) rfl dX3_init_27 ?_
  refine lv_iconst (v := (-1)) hx hb dX3_init_30 (by decide) ?_
  have hPc := hP.sub (ws' := [(q8, .inl (cI, 4, .inl (fun _ => 0)))]) [6] rfl
  have hDc := hD.sub (ws' := [(q8, .inl (cI, 4, .inl (fun _ => 0)))]) [6] (by decide) rfl
  have hFc := va_free (wc := [(q8, .inl (cI, 4, .inl (fun _ => 0)))]) hD hS hA [6] rfl
  refine va_callv (va_runS (As := [.ref q8, .int (-1)]) (rest := []) ⟨hx, hb, hml, hown, htk⟩ (k_fill l D cI cII cC q8 H.size 4 (by decide) (fun _ => 0) (-1)) (va_cwS 2 htk (kw_goodS lsX3_24) rfl rfl rfl (by decide +kernel) ⟨Nat.le_of_ble_eq_true rfl, Nat.le_of_ble_eq_true rfl⟩) ⟨kc_blind, fun U hU hW => ⟨rfl, by rw [hU], by rw [hU]; exact hPc, va_K.moved hW.alike hK, hDc.weaken (fun _ _ _ _ => trivial), hSt.next hW⟩⟩ rfl rfl hl.1 rfl (lv_room (Nat.le_of_ble_eq_true rfl)) dX3_init_31 ⟨Nat.le_of_ble_eq_true rfl, Nat.le_of_ble_eq_true rfl⟩) hS (fun q _ h => hFc q h) hFc (fun u t H1 locs ht hvm hw hB hz1 hk1 hS => ?_)
  obtain ⟨hP1, hD1⟩ := hB
  rw [ht] at hP1
  rw [hw] at hP1 hD1
  obtain ⟨hP, hD⟩ := va_join (wr := [(h0, .inr (3, [.int 60, .ref q1, .ref q8])), (q1, .inl (cII, 4, .inr (.inr (.inr (.inr (fun j : Nat => ([q4, q5, q6, q7] : List Nat)[j]?)))))), (q4, .inl (cI, 60, .inl (fun _ => 0))), (q5, .inl (cI, 60, .inl (fun _ => 0))), (q6, .inl (cI, 60, .inl (fun _ => 0))), (q7, .inl (cI, 60, .inl (fun _ => 0)))]) (w1 := [(q8, .inl (cI, 4, .inl (fun j => if j < 4 then (-1) else 0)))]) hP hD [6] [0, 1, 2, 3, 4, 5] rfl rfl (by decide) (by decide) hk1 hFc hP1 hD1
  generalize H1 = H at hP hS ⊢
  have hP : va_P D vwCl [(h0, .inr (3, [.int 60, .ref q1, .ref q8])), (q1, .inl (cII, 4, .inr (.inr (.inr (.inr (fun j : Nat => ([q4, q5, q6, q7] : List Nat)[j]?)))))), (q4, .inl (cI, 60, .inl (fun _ => 0))), (q5, .inl (cI, 60, .inl (fun _ => 0))), (q6, .inl (cI, 60, .inl (fun _ => 0))), (q7, .inl (cI, 60, .inl (fun _ => 0))), (q8, .inl (cI, 4, .inl (fun j => if j < 4 then (-1) else 0)))] H := hP
  have hD : va_D A [(h0, .inr (3, [.int 60, .ref q1, .ref q8])), (q1, .inl (cII, 4, .inr (.inr (.inr (.inr (fun j : Nat => ([q4, q5, q6, q7] : List Nat)[j]?)))))), (q4, .inl (cI, 60, .inl (fun _ => 0))), (q5, .inl (cI, 60, .inl (fun _ => 0))), (q6, .inl (cI, 60, .inl (fun _ => 0))), (q7, .inl (cI, 60, .inl (fun _ => 0))), (q8, .inl (cI, 4, .inl (fun j => if j < 4 then (-1) else 0)))] := hD
  refine W.widen (k := 6) (n := 248) (Nat.le_of_ble_eq_true rfl) (Nat.le_of_ble_eq_true rfl) ?_
  exact W.vret hx hb hr (fun t ht hW => ⟨⟨(), rfl, trivial, q1, q4, q5, q6, q7, q8, by rw [ht]; exact hP, hD⟩, hS.F ht⟩) hS.2.2 dX3_init_34
set_option maxHeartbeats 4000000 in
set_option maxRecDepth 100000 in
theorem k_X3_init_3_40 (l : Launch) (D : va_G) (cI cII cC : ClassId) (h0 sz : Nat) : Met l yX3_init (.code yX3_init cX3_init 3 none :: kw_ws) (kc_rm 2 5 126) (kc_Pre D cI cII cC sz [.ref h0, .int 3, .int 40] [(h0, .inr (3, [.int 0, .null, .null]))]) (va_Qv (fun _ : Unit => True) (fun _ t => ∃ q1 q4 q5 q6 q7 : Nat, va_P D vwCl [(h0, .inr (3, [.int 40, .ref q1, .ref q7])), (q1, .inl (cII, 3, .inr (.inr (.inr (.inr (fun j : Nat => ([q4, q5, q6] : List Nat)[j]?)))))), (q4, .inl (cI, 40, .inl (fun _ => 0))), (q5, .inl (cI, 40, .inl (fun _ => 0))), (q6, .inl (cI, 40, .inl (fun _ => 0))), (q7, .inl (cI, 3, .inl (fun j => if j < 3 then (-1) else 0)))] t.heap ∧ va_D (va_A [(h0, .inr (3, [.int 0, .null, .null]))] sz) [(h0, .inr (3, [.int 40, .ref q1, .ref q7])), (q1, .inl (cII, 3, .inr (.inr (.inr (.inr (fun j : Nat => ([q4, q5, q6] : List Nat)[j]?)))))), (q4, .inl (cI, 40, .inl (fun _ => 0))), (q5, .inl (cI, 40, .inl (fun _ => 0))), (q6, .inl (cI, 40, .inl (fun _ => 0))), (q7, .inl (cI, 3, .inl (fun j => if j < 3 then (-1) else 0)))]) (va_A [(h0, .inr (3, [.int 0, .null, .null]))] sz)) 5 126 (va_A [(h0, .inr (3, [.int 0, .null, .null]))] sz) := by
  refine Met.ofW (cc := cX3_init) (maxL := 3) (ret := none) (by decide) rfl ?_
  intro p e s m args below meth c s₁ B hml hv
  obtain ⟨rfl, hsz, hP, hK, hD0, hSt⟩ := hv
  have hx := B.exec
  have hb := B.bytes
  have hr := B.returns
  have hts := atoms_spec (ws := .code yX3_init cX3_init 3 none :: kw_ws) B.pre
  have htk := fun w (hw : w ∈ kw_ws) => hts w (List.mem_cons_of_mem _ hw)
  have hown : s.vm.findClass RX3 = some m.cls := findClass_of_methodNamed B.named
  have hlocks := B.notSynchronized
  have hin : meth.name = "<init>" := (name_of_methodNamed B.named B.method).1
  subst hsz
  have hD := hD0.self (sz := s.heap.size)
  generalize hAe : va_A [(h0, .inr (3, [.int 0, .null, .null]))] s.heap.size = A at hD ⊢
  have hA : ∀ q : Nat, s.heap.size ≤ q → A q := fun q h => by rw [← hAe]; exact Or.inr h
  have hS : va_S A s.heap s.heap [] := va_S.rf
  have hP : va_P D vwCl [(h0, .inr (3, [.int 0, .null, .null]))] s.heap := hP
  have hl := lv_entry ([.ref h0, .int 3, .int 40]) (n := 3) (Nat.le_of_ble_eq_true rfl)
  rw [lg_entry_eq]
  generalize (lg_sl ([.ref h0, .int 3, .int 40]) ++ List.replicate (3 - (lg_sl ([.ref h0, .int 3, .int 40])).length) Slot.unset).toArray = ls at hl ⊢
  have hl : lv_has ls 3 [(0, .ref h0), (1, .int 3), (2, .int 40)] := hl
  refine lv_aload_n hx hb dX3_init_0 rfl (lv_at hl 0 rfl) ?_
  refine W.objInit hx hb hown (htk _ kmX3_3) (htk _ wIObj) (htk _ wCObj) rfl (by rw [hml]; exact hl.1) rfl dX3_init_1 (Nat.le_of_ble_eq_true rfl) (Nat.le_of_ble_eq_true rfl) ?_
  refine W.eq (g2 := F0 m 4 ls []) rfl ?_
  refine lv_aload_n hx hb dX3_init_4 rfl (lv_at hl 0 rfl) ?_
  refine lv_iload_n hx hb dX3_init_5 rfl (lv_at hl 2 rfl) ?_
  refine va_putF (D := D) (ci := 3) (v := .int 40) (ty := .int) (C := RX3) (T := TX3) (N := 3) hx hb htk inW3 tyX3 tyX3_ok nmX3 hown hK hP hD hS 0 rfl rfl 0 (by decide) (htk _ kfX3_9) (fun _ h9 => h9) rfl hin rfl (by decide +kernel) rfl rfl (Nat.le_of_ble_eq_true rfl) dX3_init_6 (fun H locs hP hD hS => ?_)
  have hP : va_P D vwCl [(h0, .inr (3, [.int 40, .null, .null]))] H := hP
  have hD : va_D A [(h0, .inr (3, [.int 40, .null, .null]))] := hD
  refine lv_aload_n hx hb dX3_init_9 rfl (lv_at hl 0 rfl) ?_
  refine lv_iload_n hx hb dX3_init_10 rfl (lv_at hl 1 rfl) ?_
  refine lv_iload_n hx hb dX3_init_11 rfl (lv_at hl 2 rfl) ?_
  refine kc_mna (cy := cI) hx hb hown (htk _ kcX3_15) hSt.2.2 (htk _ wArr) (hK.2 0 _ rfl).2 hK hP hD hS hA 3 40 (by decide) (by decide) rfl rfl (by decide) (by decide) (by decide) (Nat.le_of_ble_eq_true rfl) (Nat.le_of_ble_eq_true rfl) dX3_init_12 (fun q1 r2 c3 H hK1 hP hD hS => ?_)
  obtain rfl : cII = c3 := kc_same2 hK1 1 3 rfl rfl
  have hP : va_P D vwCl [(h0, .inr (3, [.int 40, .null, .null])), (q1, .inl (cII, 3, .inr (.inr (.inr (.inr (fun i => if i < 3 then some (r2 i) else none)))))), (r2 0, .inl (cI, 40, .inl (fun _ => 0))), (r2 1, .inl (cI, 40, .inl (fun _ => 0))), (r2 2, .inl (cI, 40, .inl (fun _ => 0)))] H := hP
  have hD : va_D A [(h0, .inr (3, [.int 40, .null, .null])), (q1, .inl (cII, 3, .inr (.inr (.inr (.inr (fun i => if i < 3 then some (r2 i) else none)))))), (r2 0, .inl (cI, 40, .inl (fun _ => 0))), (r2 1, .inl (cI, 40, .inl (fun _ => 0))), (r2 2, .inl (cI, 40, .inl (fun _ => 0)))] := hD
  have hf : (fun i => if i < 3 then some (r2 i) else none) = (fun j : Nat => ([r2 0, r2 1, r2 2] : List Nat)[j]?) := by
    funext j
    match j with
    | 0 => rfl
    | 1 => rfl
    | 2 => rfl
    | j + 3 => simp
  rw [hf] at hP hD
  clear hf
  generalize r2 0 = q4 at hP hD
  generalize r2 1 = q5 at hP hD
  generalize r2 2 = q6 at hP hD
  have hP : va_P D vwCl [(h0, .inr (3, [.int 40, .null, .null])), (q1, .inl (cII, 3, .inr (.inr (.inr (.inr (fun j : Nat => ([q4, q5, q6] : List Nat)[j]?)))))), (q4, .inl (cI, 40, .inl (fun _ => 0))), (q5, .inl (cI, 40, .inl (fun _ => 0))), (q6, .inl (cI, 40, .inl (fun _ => 0)))] H := hP
  have hD : va_D A [(h0, .inr (3, [.int 40, .null, .null])), (q1, .inl (cII, 3, .inr (.inr (.inr (.inr (fun j : Nat => ([q4, q5, q6] : List Nat)[j]?)))))), (q4, .inl (cI, 40, .inl (fun _ => 0))), (q5, .inl (cI, 40, .inl (fun _ => 0))), (q6, .inl (cI, 40, .inl (fun _ => 0)))] := hD
  refine W.widen (k := 4) (n := 123) (Nat.le_of_ble_eq_true rfl) (Nat.le_of_ble_eq_true rfl) ?_
  refine va_putF (D := D) (ci := 3) (v := .ref q1) (ty := .array (.array .int)) (C := RX3) (T := TX3) (N := 3) hx hb htk inW3 tyX3 tyX3_ok nmX3 hown hK hP hD hS 0 rfl rfl 1 (by decide) (htk _ kfX3_17) (fun _ h9 => h9) rfl hin rfl (by decide +kernel) rfl rfl (Nat.le_of_ble_eq_true rfl) dX3_init_16 (fun H locs hP hD hS => ?_)
  have hP : va_P D vwCl [(h0, .inr (3, [.int 40, .ref q1, .null])), (q1, .inl (cII, 3, .inr (.inr (.inr (.inr (fun j : Nat => ([q4, q5, q6] : List Nat)[j]?)))))), (q4, .inl (cI, 40, .inl (fun _ => 0))), (q5, .inl (cI, 40, .inl (fun _ => 0))), (q6, .inl (cI, 40, .inl (fun _ => 0)))] H := hP
  have hD : va_D A [(h0, .inr (3, [.int 40, .ref q1, .null])), (q1, .inl (cII, 3, .inr (.inr (.inr (.inr (fun j : Nat => ([q4, q5, q6] : List Nat)[j]?)))))), (q4, .inl (cI, 40, .inl (fun _ => 0))), (q5, .inl (cI, 40, .inl (fun _ => 0))), (q6, .inl (cI, 40, .inl (fun _ => 0)))] := hD
  refine lv_aload_n hx hb dX3_init_19 rfl (lv_at hl 0 rfl) ?_
  refine lv_iload_n hx hb dX3_init_20 rfl (lv_at hl 1 rfl) ?_
  refine va_newa (atype := .int) (ty := .int) (a0 := (3, .inl (fun _ => 0))) (N' := 3) hx hb (htk _ wArr) rfl hK hP hD hS hA (fun _ => rfl) (by decide) rfl (by decide) (Nat.le_of_ble_eq_true rfl) (Nat.le_of_ble_eq_true rfl) dX3_init_21 (fun q7 c8 H hK1 hP hD hS => ?_)
  obtain rfl : cI = c8 := kc_same hK1 0 3 rfl rfl
  have hP : va_P D vwCl [(h0, .inr (3, [.int 40, .ref q1, .null])), (q1, .inl (cII, 3, .inr (.inr (.inr (.inr (fun j : Nat => ([q4, q5, q6] : List Nat)[j]?)))))), (q4, .inl (cI, 40, .inl (fun _ => 0))), (q5, .inl (cI, 40, .inl (fun _ => 0))), (q6, .inl (cI, 40, .inl (fun _ => 0))), (q7, .inl (cI, 3, .inl (fun _ => 0)))] H := hP
  have hD : va_D A [(h0, .inr (3, [.int 40, .ref q1, .null])), (q1, .inl (cII, 3, .inr (.inr (.inr (.inr (fun j : Nat => ([q4, q5, q6] : List Nat)[j]?)))))), (q4, .inl (cI, 40, .inl (fun _ => 0))), (q5, .inl (cI, 40, .inl (fun _ => 0))), (q6, .inl (cI, 40, .inl (fun _ => 0))), (q7, .inl (cI, 3, .inl (fun _ => 0)))] := hD
  refine W.widen (k := 5) (n := 126) (Nat.le_of_ble_eq_true rfl) (Nat.le_of_ble_eq_true rfl) ?_
  refine va_putF (D := D) (ci := 3) (v := .ref q7) (ty := .array .int) (C := RX3) (T := TX3) (N := 3) hx hb htk inW3 tyX3 tyX3_ok nmX3 hown hK hP hD hS 0 rfl rfl 2 (by decide) (htk _ kfX3_20) (fun _ h9 => h9) rfl hin rfl (by decide +kernel) rfl rfl (Nat.le_of_ble_eq_true rfl) dX3_init_23 (fun H locs hP hD hS => ?_)
  have hP : va_P D vwCl [(h0, .inr (3, [.int 40, .ref q1, .ref q7])), (q1, .inl (cII, 3, .inr (.inr (.inr (.inr (fun j : Nat => ([q4, q5, q6] : List Nat)[j]?)))))), (q4, .inl (cI, 40, .inl (fun _ => 0))), (q5, .inl (cI, 40, .inl (fun _ => 0))), (q6, .inl (cI, 40, .inl (fun _ => 0))), (q7, .inl (cI, 3, .inl (fun _ => 0)))] H := hP
  have hD : va_D A [(h0, .inr (3, [.int 40, .ref q1, .ref q7])), (q1, .inl (cII, 3, .inr (.inr (.inr (.inr (fun j : Nat => ([q4, q5, q6] : List Nat)[j]?)))))), (q4, .inl (cI, 40, .inl (fun _ => 0))), (q5, .inl (cI, 40, .inl (fun _ => 0))), (q6, .inl (cI, 40, .inl (fun _ => 0))), (q7, .inl (cI, 3, .inl (fun _ => 0)))] := hD
  refine lv_aload_n hx hb dX3_init_26 rfl (lv_at hl 0 rfl) ?_
  refine va_get (D := D) (ci := 3) (v := .ref q7) (C := RX3) (T := TX3) (N := 3) hx hb htk inW3 hown hK hP 0 rfl rfl 2 (by decide) (htk _ kfX3_20) (fun _ h9 => h9) rfl dX3_init_27 ?_
  refine lv_iconst (v := (-1)) hx hb dX3_init_30 (by decide) ?_
  have hPc := hP.sub (ws' := [(q7, .inl (cI, 3, .inl (fun _ => 0)))]) [5] rfl
  have hDc := hD.sub (ws' := [(q7, .inl (cI, 3, .inl (fun _ => 0)))]) [5] (by decide) rfl
  have hFc := va_free (wc := [(q7, .inl (cI, 3, .inl (fun _ => 0)))]) hD hS hA [5] rfl
  refine va_callv (va_runS (As := [.ref q7, .int (-1)]) (rest := []) ⟨hx, hb, hml, hown, htk⟩ (k_fill l D cI cII cC q7 H.size 3 (by decide) (fun _ => 0) (-1)) (va_cwS 2 htk (kw_goodS lsX3_24) rfl rfl rfl (by decide +kernel) ⟨Nat.le_of_ble_eq_true rfl, Nat.le_of_ble_eq_true rfl⟩) ⟨kc_blind, fun U hU hW => ⟨rfl, by rw [hU], by rw [hU]; exact hPc, va_K.moved hW.alike hK, hDc.weaken (fun _ _ _ _ => trivial), hSt.next hW⟩⟩ rfl rfl hl.1 rfl (lv_room (Nat.le_of_ble_eq_true rfl)) dX3_init_31 ⟨Nat.le_of_ble_eq_true rfl, Nat.le_of_ble_eq_true rfl⟩) hS (fun q _ h => hFc q h) hFc (fun u t H1 locs ht hvm hw hB hz1 hk1 hS => ?_)
  obtain ⟨hP1, hD1⟩ := hB
  rw [ht] at hP1
  rw [hw] at hP1 hD1
  obtain ⟨hP, hD⟩ := va_join (wr := [(h0, .inr (3, [.int 40, .ref q1, .ref q7])), (q1, .inl (cII, 3, .inr (.inr (.inr (.inr (fun j : Nat => ([q4, q5, q6] : List Nat)[j]?)))))), (q4, .inl (cI, 40, .inl (fun _ => 0))), (q5, .inl (cI, 40, .inl (fun _ => 0))), (q6, .inl (cI, 40, .inl (fun _ => 0)))]) (w1 := [(q7, .inl (cI, 3, .inl (fun j => if j < 3 then (-1) else 0)))]) hP hD [5] [0, 1, 2, 3, 4] rfl rfl (by decide) (by decide) hk1 hFc hP1 hD1
  generalize H1 = H at hP hS ⊢
  have hP : va_P D vwCl [(h0, .inr (3, [.int 40, .ref q1, .ref q7])), (q1, .inl (cII, 3, .inr (.inr (.inr (.inr (fun j : Nat => ([q4, q5, q6] : List Nat)[j]?)))))), (q4, .inl (cI, 40, .inl (fun _ => 0))), (q5, .inl (cI, 40, .inl (fun _ => 0))), (q6, .inl (cI, 40, .inl (fun _ => 0))), (q7, .inl (cI, 3, .inl (fun j => if j < 3 then (-1) else 0)))] H := hP
  have hD : va_D A [(h0, .inr (3, [.int 40, .ref q1, .ref q7])), (q1, .inl (cII, 3, .inr (.inr (.inr (.inr (fun j : Nat => ([q4, q5, q6] : List Nat)[j]?)))))), (q4, .inl (cI, 40, .inl (fun _ => 0))), (q5, .inl (cI, 40, .inl (fun _ => 0))), (q6, .inl (cI, 40, .inl (fun _ => 0))), (q7, .inl (cI, 3, .inl (fun j => if j < 3 then (-1) else 0)))] := hD
  refine W.widen (k := 5) (n := 126) (Nat.le_of_ble_eq_true rfl) (Nat.le_of_ble_eq_true rfl) ?_
  exact W.vret hx hb hr (fun t ht hW => ⟨⟨(), rfl, trivial, q1, q4, q5, q6, q7, by rw [ht]; exact hP, hD⟩, hS.F ht⟩) hS.2.2 dX3_init_34
