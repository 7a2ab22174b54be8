section
/-! THE CLAIM OUT OF ONE WALK OF THE LAW'S BODY. Your part is whole_start (and what it stands on); all else here is the same for every law, but numbers. -/
def R_law : String := "WashSailsLaw"
def lw_P (b : Addr) (xs : List Int32) (args : Array Value) (s : State) : Prop := args = #[.ref b] ∧ s.IntsAt b xs ∧ xs.length ≤ 384 ∧ (Jvm.Cond.and given_1 narrow_1).before args s = true
def lw_Q (_ : Array Value) (s : State) (o : Outcome) (t : State) : Prop := o = .returned (some (.int 1)) ∧ Framed s o t [] 600000 7302250
def lw_Z (below : List Frame) (a : Array Value) (s : State) : State → Prop := fun t => ∃ o, t.status = .running ∧ Ended t below o ∧ lw_Q a s o t
/-- the law's own end, with 1 on the stack, nothing written that was there before, its room as the claim has it -/
theorem lw_ret {p : Program} {l : Launch} {e : Env} {s : State} {m : MethodId} {below : List Frame} {meth : Method} {c : Code} {b : Nat} (hx : p.tables.exec = Jvm.exec) (hb : c.code = code) (hr : meth.sig.returnType = ret) (hlocks : meth.locks = false) {pc : Nat} {H : Heap} {ls : Array Slot} (hdg : decode code pc = .ok (.ireturn, 1)) : W p l e room_1 s m #[Value.ref b] below meth c H [] 600000 7302250 (lw_Z below #[Value.ref b] s) (F0 m pc ls [.int 1]) := by
  intro T hT X
  obtain ⟨fs, hret, hrun, hended, hW, hframe⟩ := X.leave (v := some (.int 1)) (hlocks := hlocks) (fun h => by rw [hr] at h; cases h)
  have hmeth' : T.vm.method? m = some meth := X.method'
  refine ⟨T.setFrames fs, ?_, .returned (some (.int 1)), hrun, hended, rfl, ⟨_, rfl⟩, hW, hframe⟩
  jvm_step X.here [X.here.top, hx, hb, hdg, hmeth', hr, ret, narrow_b1]
  (try refine ⟨rfl, ?_⟩); (try refine ⟨rfl, ?_⟩)
  first | (intro acts; rw [hret _ acts rfl rfl rfl]) | rw [hret _ _ rfl rfl rfl]
  exact Steps.refl _
/-- what holds at the law's entry: the machine, the code, the tables' words (any of lw_tbl by 'hts w (by decide +kernel)'), the script of L ints xs at the cell b, what the Statement gives of the start (any of its parts by flat_of_before) -/
def lw_At (p : Program) (s : State) (m : MethodId) (meth : Method) (c : Code) (b L : Nat) (xs : Nat → Int32) : Prop :=
  p.tables.exec = Jvm.exec ∧ c.code = code ∧ meth.sig.returnType = ret ∧ c.maxLocals = 4 ∧ s.vm.findClass R_law = some m.cls ∧ (∀ w ∈ lw_tbl, w.before #[Value.ref b] s = true) ∧ va_X b L xs s s.heap ∧ b < s.heap.size ∧ meth.locks = false ∧ (Jvm.Cond.and given_1 narrow_1).before #[Value.ref b] s = true
end
section
theorem kc_bX0 (a j : Nat) (h : ¬ (a = 1 ∧ j = 0) ∧ ¬ (a = 2 ∧ j = 0) ∧ ¬ (a = 5 ∧ j = 0)) : (bX a j).1 ≤ 0 ∧ 0 ≤ (bX a j).2 := by
  unfold bX
  split <;> first | (split <;> simp_all) | simp_all
theorem kc_bM0 (a j : Nat) (h : ¬ (a = 0 ∧ j = 11)) : (bM 0 a j).1 ≤ 0 ∧ 0 ≤ (bM 0 a j).2 := by
  unfold bM
  split
  · split <;> simp_all
  · simp
  · simp
  · split
    · simp
    · split <;> simp
  · split
    · simp
    · split
      · simp
      · split <;> simp
  · simp
theorem kc_upd {f : Nat → Int32} {v : Int32} (h : ∀ j, f j = v ∨ f j = 0) (i : Nat) : ∀ j, upd f i v j = v ∨ upd f i v j = 0 := by
  intro j
  by_cases hj : j = i
  · subst hj; exact Or.inl (by simp [upd])
  · rcases h j with q | q
    · exact Or.inl (by simp [upd, hj, q])
    · exact Or.inr (by simp [upd, hj, q])
theorem kc_SXz (a j : Nat) (h : a ≠ 1 ∧ a ≠ 2 ∧ a ≠ 5 ∧ a ≠ 13 ∧ a ≠ 15 ∧ a ≠ 21) : kc_SX.1 a j = 0 := by
  simp [kc_SX, h]
theorem kc_SMz (a j : Nat) (h : a ≠ 0 ∧ a ≠ 2 ∧ a ≠ 5) : kc_SM.1 a j = 0 := by
  simp [kc_SM, h]
theorem kc_IX : kw_I bX kc_SX := by
  intro a j
  by_cases h1 : a = 1 ∨ a = 2 ∨ a = 5
  · by_cases hj : j = 0
    · subst hj
      rcases h1 with rfl | rfl | rfl <;> decide
    · have e : kc_SX.1 a j = 0 := by
        rcases h1 with rfl | rfl | rfl <;> simp [kc_SX, hj]
      rw [e]
      exact kc_bX0 a j (by omega)
  · by_cases h2 : a = 13 ∨ a = 15 ∨ a = 21
    · have e : kc_SX.1 a j = -1 ∨ kc_SX.1 a j = 0 := by
        rcases h2 with rfl | rfl | rfl
        · by_cases q : j < 6 <;> simp [kc_SX, q]
        · by_cases q : j < 4 <;> simp [kc_SX, q]
        · by_cases q : j < 3 <;> simp [kc_SX, q]
      rcases h2 with rfl | rfl | rfl <;> rcases e with e | e <;> rw [e]
      · exact (show (-1 : Int) ≤ (-1 : Int32).toInt ∧ (-1 : Int32).toInt ≤ 40 by decide)
      · exact (show (-1 : Int) ≤ (0 : Int32).toInt ∧ (0 : Int32).toInt ≤ 40 by decide)
      · exact (show (-1 : Int) ≤ (-1 : Int32).toInt ∧ (-1 : Int32).toInt ≤ 60 by decide)
      · exact (show (-1 : Int) ≤ (0 : Int32).toInt ∧ (0 : Int32).toInt ≤ 60 by decide)
      · exact (show (-1 : Int) ≤ (-1 : Int32).toInt ∧ (-1 : Int32).toInt ≤ 40 by decide)
      · exact (show (-1 : Int) ≤ (0 : Int32).toInt ∧ (0 : Int32).toInt ≤ 40 by decide)
    · rw [kc_SXz a j (by omega)]
      exact kc_bX0 a j (by omega)
theorem kc_IM : kw_I (bM 0) kc_SM := by
  intro a j
  by_cases h0 : a = 0
  · subst h0
    by_cases hj : j = 11
    · subst hj; decide
    · have e : kc_SM.1 0 j = 0 := by simp [kc_SM, hj]
      rw [e]
      exact kc_bM0 0 j (by omega)
  · by_cases h2 : a = 2 ∨ a = 5
    · have e : kc_SM.1 a j = -9 ∨ kc_SM.1 a j = 0 := by
        rcases h2 with rfl | rfl
        · exact kc_upd (kc_upd (kc_upd (kc_upd (kc_upd (kc_upd (fun _ => Or.inr rfl) 0) 1) 2) 3) 4) 5 j
        · exact kc_upd (kc_upd (kc_upd (kc_upd (fun _ => Or.inr rfl) 0) 1) 2) 3 j
      rcases h2 with rfl | rfl <;> rcases e with e | e <;> rw [e]
      · exact (show (-9 : Int) ≤ (-9 : Int32).toInt ∧ (-9 : Int32).toInt ≤ 40 by decide)
      · exact (show (-9 : Int) ≤ (0 : Int32).toInt ∧ (0 : Int32).toInt ≤ 40 by decide)
      · exact (show (-9 : Int) ≤ (-9 : Int32).toInt ∧ (-9 : Int32).toInt ≤ 60 by decide)
      · exact (show (-9 : Int) ≤ (0 : Int32).toInt ∧ (0 : Int32).toInt ≤ 60 by decide)
    · rw [kc_SMz a j (by omega)]
      exact kc_bM0 a j (by omega)
end
section
theorem kr_T0 : kr_T (kw_mixM kc_SX kc_SM) kc_SM := by
  refine kr_T.cong (x := kc_SX) ?_ (fun a ha => by simp [kw_mixM, show a < 61 by omega]) (fun _ _ => rfl)
  refine ⟨fun t ht => Or.inl ?_, fun t i ht hi => ?_⟩
  · rcases (show t = 0 ∨ t = 1 ∨ t = 2 ∨ t = 3 by omega) with rfl | rfl | rfl | rfl <;> exact ⟨by decide, by decide⟩
  · rw [kc_SXz (35 + t) i (by omega), kc_SMz 6 _ (by omega)]
theorem kr_L0 : kr_L (kw_mixM kc_SX kc_SM) kc_SM := by
  refine kr_L.cong (x := kc_SX) (m := kc_SM) ?_ (fun a ha => by simp [kw_mixM, show a < 61 by omega]) (fun _ _ => rfl) rfl rfl
  have e : kc_SX.1 17 5 = 0 := kc_SXz 17 5 (by omega)
  refine ⟨by rw [e]; rfl, by rw [e]; decide, Or.inl ⟨by rw [e]; rfl, kc_SXz 17 6 (by omega), rfl, kc_SMz 7 0 (by omega)⟩, fun i hi => ?_⟩
  rw [e, kp_q0] at hi
  omega
end
section
set_option maxHeartbeats 4000000 in
set_option maxRecDepth 100000 in
theorem whole_start {p : Program} {e : Env} {s : State} {m : MethodId} {below : List Frame} {meth : Method} {c : Code} (l : Launch) {b L : Nat} {xs : Nat → Int32} (hL : L ≤ 384) (C0 : lw_At p s m meth c b L xs) : W p l e room_1 s m #[Value.ref b] below meth c s.heap [] 0 0 (lw_Z below #[Value.ref b] s) (entryFrame m ([Value.ref b] : List Value).toArray 4) := by
  obtain ⟨hx, hb, hr, hml, hown, hts, hX, hbl, hlocks, hgv⟩ := id C0
  have htk : ∀ w ∈ kw_ws, w.before #[Value.ref b] s = true := fun w hw => hts w (List.mem_filter.mp hw).1
  have hA : ∀ q : Nat, s.heap.size ≤ q → (fun q : Nat => s.heap.size ≤ q) q := fun _ h => h
  have hAn : ∀ a : Nat, a < s.heap.size → ¬ (fun q : Nat => s.heap.size ≤ q) a := fun a h => Nat.not_le.mpr h
  obtain ⟨c0, iS0, hKn0⟩ := u_known (C := RX0) (T := TX0) (N := 4) (n := 4) htk inW0 (htk _ wKX0)
  obtain ⟨c1, iS1, hKn1⟩ := u_known (C := RX1) (T := TX1) (N := 7) (n := 7) htk inW1 (htk _ wKX1)
  obtain ⟨c2, iS2, hKn2⟩ := u_known (C := RX2) (T := TX2) (N := 2) (n := 2) htk inW2 (htk _ wKX2)
  obtain ⟨c3, iS3, hKn3⟩ := u_known (C := RX3) (T := TX3) (N := 3) (n := 3) htk inW3 (htk _ wKX3)
  obtain ⟨c4, iS4, hKn4⟩ := u_known (C := RX4) (T := TX4) (N := 5) (n := 5) htk inW4 (htk _ wKX4)
  obtain ⟨c5, iS5, hKn5⟩ := u_known (C := RX5) (T := TX5) (N := 8) (n := 8) htk inW5 (htk _ wKX5)
  obtain ⟨c6, iS6, hKn6⟩ := u_known (C := RX6) (T := TX6) (N := 8) (n := 8) htk inW6 (htk _ wKX6)
  obtain ⟨c7, iS7, hKn7⟩ := u_known (C := RX7) (T := TX7) (N := 11) (n := 11) htk inW7 (htk _ wKX7)
  obtain ⟨c8, iS8, hKn8⟩ := u_known (C := RX8) (T := TX8) (N := 37) (n := 37) htk inW8 (htk _ wKX8)
  obtain ⟨cI, kI, mI, fI, lI, kindI⟩ := Cond.arrayClass_spec (htk _ wArr)
  have wAC : (Cond.arrayOver (.object "WashSails$Chart")).before #[Value.ref b] s = true := hts _ (by decide +kernel)
  have wAA : (Cond.arrayOver (.array .int)).before #[Value.ref b] s = true := hts _ (by decide +kernel)
  obtain ⟨mC, cC, kC, f1C, f2C, f3C, f4C, f5C⟩ := Cond.arrayOver_spec wAC
  obtain ⟨mA, cII, kA, f1A, f2A, f3A, f4A, f5A⟩ := Jvm.Stand.arrayOver_specB wAA
  obtain ⟨D, hKc⟩ : ∃ D : va_G, ∀ (k : Nat) (q : vw_C), vwCl[k]? = some q → u_Kn s q.1 q.2.1 q.2.2 (D.1 k) (D.2 k) := by
    refine ⟨(fun k => if k = 0 then c0 else if k = 1 then c1 else if k = 2 then c2 else if k = 3 then c3 else if k = 4 then c4 else if k = 5 then c5 else if k = 6 then c6 else if k = 7 then c7 else c8, fun k => if k = 0 then iS0 else if k = 1 then iS1 else if k = 2 then iS2 else if k = 3 then iS3 else if k = 4 then iS4 else if k = 5 then iS5 else if k = 6 then iS6 else if k = 7 then iS7 else iS8), ?_⟩
    intro k q hq
    match k, hq with
    | 0, hq => cases hq; exact hKn0
    | 1, hq => cases hq; exact hKn1
    | 2, hq => cases hq; exact hKn2
    | 3, hq => cases hq; exact hKn3
    | 4, hq => cases hq; exact hKn4
    | 5, hq => cases hq; exact hKn5
    | 6, hq => cases hq; exact hKn6
    | 7, hq => cases hq; exact hKn7
    | 8, hq => cases hq; exact hKn8
    | k + 9, hq => simp [vwCl] at hq
  have hS : va_S (fun q : Nat => s.heap.size ≤ q) s.heap s.heap [] := va_S.rf
  have hK : va_K D vwCl (kc_tys cI cII cC) s := by
    refine ⟨hKc, fun k q hq => ?_⟩
    match k, hq with
    | 0, hq => cases hq; exact ⟨fun n z => ⟨fun k h => (by cases h), kI, lI, mI, kindI⟩, fI⟩
    | 1, hq => cases hq; exact ⟨fun n z => ⟨fun k h => (by cases h), kA, f3A, mA, f4A⟩, f5A⟩
    | 2, hq => cases hq; exact ⟨fun n z => ⟨fun k h => (by cases h), kC, f3C, mC, f4C⟩, kC, mC, f3C, f4C, f1C, f5C⟩
    | k + 3, hq => simp at hq
  have hSt : kc_St s := ⟨fun q hq => va_Nw.of rfl (hts _ ((show ∀ q ∈ kc_NM, Cond.methodLinkNest q.1 q.2.1 q.2.2 "WashSails" ∈ lw_tbl by decide +kernel) q hq)), va_AO.of wAC, wAA⟩
  have hs := flat_of_before _ hgv
  obtain ⟨tL, etL, hTtL⟩ := va_Tof (args := #[Value.ref b]) (s := s) (tm := (Term.static "WashSails" "LETTERS" "[I")) (ty := .int) (N := 6) (f := fun j => .int (kw_LT j)) (A := fun q : Nat => s.heap.size ≤ q) (by decide) (hs (Cond.arrayOf (Term.static "WashSails" "LETTERS" "[I") .int) (by decide +kernel)) (va_eqt (hs (Cond.eq (Term.length (Term.static "WashSails" "LETTERS" "[I")) (.int 6)) (by decide +kernel))) (fun j hj => by
      match j, hj with
      | 0, _ => exact va_eqt (hs (Cond.eq (Term.elem (Term.static "WashSails" "LETTERS" "[I") (.int 0)) (.int (108))) (by decide +kernel))
      | 1, _ => exact va_eqt (hs (Cond.eq (Term.elem (Term.static "WashSails" "LETTERS" "[I") (.int 1)) (.int (115))) (by decide +kernel))
      | 2, _ => exact va_eqt (hs (Cond.eq (Term.elem (Term.static "WashSails" "LETTERS" "[I") (.int 2)) (.int (98))) (by decide +kernel))
      | 3, _ => exact va_eqt (hs (Cond.eq (Term.elem (Term.static "WashSails" "LETTERS" "[I") (.int 3)) (.int (107))) (by decide +kernel))
      | 4, _ => exact va_eqt (hs (Cond.eq (Term.elem (Term.static "WashSails" "LETTERS" "[I") (.int 4)) (.int (111))) (by decide +kernel))
      | 5, _ => exact va_eqt (hs (Cond.eq (Term.elem (Term.static "WashSails" "LETTERS" "[I") (.int 5)) (.int (112))) (by decide +kernel))
      | j + 6, hj => exact absurd hj (by omega)) hAn
  have hZtL := va_Zof (A := fun q : Nat => s.heap.size ≤ q) (hts (.laysStatic "WashSails" "LETTERS" "[I") (by decide +kernel)) (htk _ wNX7) etL hAn
  obtain ⟨tK, etK, hTtK⟩ := va_Tof (args := #[Value.ref b]) (s := s) (tm := (Term.static "WashSails" "KIND_ABOVE" "[I")) (ty := .int) (N := 6) (f := fun j => .int (kw_KA j)) (A := fun q : Nat => s.heap.size ≤ q) (by decide) (hs (Cond.arrayOf (Term.static "WashSails" "KIND_ABOVE" "[I") .int) (by decide +kernel)) (va_eqt (hs (Cond.eq (Term.length (Term.static "WashSails" "KIND_ABOVE" "[I")) (.int 6)) (by decide +kernel))) (fun j hj => by
      match j, hj with
      | 0, _ => exact va_eqt (hs (Cond.eq (Term.elem (Term.static "WashSails" "KIND_ABOVE" "[I") (.int 0)) (.int (-1))) (by decide +kernel))
      | 1, _ => exact va_eqt (hs (Cond.eq (Term.elem (Term.static "WashSails" "KIND_ABOVE" "[I") (.int 1)) (.int (0))) (by decide +kernel))
      | 2, _ => exact va_eqt (hs (Cond.eq (Term.elem (Term.static "WashSails" "KIND_ABOVE" "[I") (.int 2)) (.int (0))) (by decide +kernel))
      | 3, _ => exact va_eqt (hs (Cond.eq (Term.elem (Term.static "WashSails" "KIND_ABOVE" "[I") (.int 3)) (.int (0))) (by decide +kernel))
      | 4, _ => exact va_eqt (hs (Cond.eq (Term.elem (Term.static "WashSails" "KIND_ABOVE" "[I") (.int 4)) (.int (1))) (by decide +kernel))
      | 5, _ => exact va_eqt (hs (Cond.eq (Term.elem (Term.static "WashSails" "KIND_ABOVE" "[I") (.int 5)) (.int (4))) (by decide +kernel))
      | j + 6, hj => exact absurd hj (by omega)) hAn
  have hZtK := va_Zof (A := fun q : Nat => s.heap.size ≤ q) (hts (.laysStatic "WashSails" "KIND_ABOVE" "[I") (by decide +kernel)) (htk _ wNX7) etK hAn
  have hP : va_P D vwCl [] s.heap := fun k q h => by simp at h
  have hD : va_D (fun q : Nat => s.heap.size ≤ q) [] := ⟨fun i j p q h => by simp at h, fun k q h => by simp at h⟩
  have hl := lv_entry ([.ref b]) (n := 4) (Nat.le_of_ble_eq_true rfl)
  rw [lg_entry_eq]
  generalize (lg_sl ([.ref b]) ++ List.replicate (4 - (lg_sl ([.ref b])).length) Slot.unset).toArray = ls at hl ⊢
  have hl : lv_has ls 4 [(0, .ref b)] := hl
  obtain ⟨A, hAe⟩ : ∃ A : Nat → Prop, A = fun q : Nat => s.heap.size ≤ q := ⟨_, rfl⟩
  rw [← hAe] at hA hS hD hTtL hTtK hZtL hZtK
  have dl0 : decode code 0 = .ok (.new 7, 3) := kc_dec kl_t 0 rfl
  refine va_new (ci := 7) (fs := [.null, .null, .null, .null, .null, .null, .null, .null, .null, .null, .null]) (C := RX7) (T := TX7) (N := 11) hx hb htk inW7 tyX7 tyX7_ok hown (htk _ kcL_7) (htk _ wKX7) (htk _ wNX7) hK hP hD hS hA rfl (fun j hj => by rcases (show j = 0 ∨ j = 1 ∨ j = 2 ∨ j = 3 ∨ j = 4 ∨ j = 5 ∨ j = 6 ∨ j = 7 ∨ j = 8 ∨ j = 9 ∨ j = 10 by omega) with rfl | rfl | rfl | rfl | rfl | rfl | rfl | rfl | rfl | rfl | rfl <;> rfl) (Nat.le_of_ble_eq_true rfl) (Nat.le_of_ble_eq_true rfl) dl0 (fun x0 H hP hD hS => ?_)
  have hP : va_P D vwCl [(x0, .inr (7, [.null, .null, .null, .null, .null, .null, .null, .null, .null, .null, .null]))] H := hP
  have hD : va_D A [(x0, .inr (7, [.null, .null, .null, .null, .null, .null, .null, .null, .null, .null, .null]))] := hD
  refine W.widen (k := 1) (n := 11) (Nat.le_of_ble_eq_true rfl) (Nat.le_of_ble_eq_true rfl) ?_
  refine lv_dup hx hb (show decode code 3 = .ok (.dup, 1) from kc_dec kl_t 1 rfl) rfl ?_
  have hPc := hP
  have hDc := hD
  have hFc := va_free (wc := [(x0, .inr (7, [.null, .null, .null, .null, .null, .null, .null, .null, .null, .null, .null]))]) hD hS hA [0] rfl
  have dl4 : decode code 4 = .ok (.invokespecial 9, 3) := kc_dec kl_t 2 rfl
  refine va_callv (va_runI (b := x0) (As := []) (rest := [.ref x0]) ⟨hx, hb, hml, hown, htk⟩ (k_X7_init l D cI cII cC x0 H.size) (cwI 0 htk (kw_good wCX7_init (fun w h => h)) rfl rfl rfl (htk _ wNX7) (htk _ kmL_9) (htk _ wIX7_init) rfl (by decide +kernel) ⟨Nat.le_of_ble_eq_true rfl, Nat.le_of_ble_eq_true rfl⟩) ⟨kc_blind, fun U hU hW => ⟨rfl, by rw [hU], by rw [hU]; exact hPc, va_K.moved hW.alike hK, hDc.weaken (fun _ _ _ _ => trivial), hSt.next hW⟩⟩ rfl rfl hl.1 rfl (lv_room (Nat.le_of_ble_eq_true rfl)) dl4 ⟨Nat.le_of_ble_eq_true rfl, Nat.le_of_ble_eq_true rfl⟩) hS (fun q _ h => hFc q h) hFc (fun u t H1 locs ht hvm hw hB hz1 hk1 hS => ?_)
  obtain ⟨rX, hrX, hP1, hD1⟩ := hB
  rw [ht] at hP1
  clear hP hD hPc hDc
  have hP := hP1
  have hD := hD1.weaken (fun k q _ h => hFc q.1 h)
  clear hP1 hD1 hFc
  generalize H1 = H at hP hS ⊢
  refine W.widen (k := 61) (n := 1358) (Nat.le_of_ble_eq_true rfl) (Nat.le_of_ble_eq_true rfl) ?_
  refine lv_astore_n (lv' := [(1, .ref x0), (0, .ref b)]) hx hb (show decode code 7 = .ok (.astore_n 1, 1) from kc_dec kl_t 3 rfl) rfl hl (by decide) rfl (fun ls hl => ?_)
  have dl8 : decode code 8 = .ok (.new 10, 3) := kc_dec kl_t 4 rfl
  refine va_new (ci := 8) (fs := [.int 0, .null, .int 0, .long 0, .long 0, .null, .null, .null, .null, .null, .int 0, .int 0, .null, .null, .null, .null, .null, .int 0, .int 0, .int 0, .null, .null, .int 0, .int 0, .int 0, .int 0, .null, .int 0, .null, .null, .null, .null, .null, .null, .null, .null, .long 0]) (C := RX8) (T := TX8) (N := 37) hx hb htk inW8 tyX8 tyX8_ok hown (htk _ kcL_10) (htk _ wKX8) (htk _ wNX8) hK hP hD hS hA rfl (fun j hj => by rcases (show j = 0 ∨ j = 1 ∨ j = 2 ∨ j = 3 ∨ j = 4 ∨ j = 5 ∨ j = 6 ∨ j = 7 ∨ j = 8 ∨ j = 9 ∨ j = 10 ∨ j = 11 ∨ j = 12 ∨ j = 13 ∨ j = 14 ∨ j = 15 ∨ j = 16 ∨ j = 17 ∨ j = 18 ∨ j = 19 ∨ j = 20 ∨ j = 21 ∨ j = 22 ∨ j = 23 ∨ j = 24 ∨ j = 25 ∨ j = 26 ∨ j = 27 ∨ j = 28 ∨ j = 29 ∨ j = 30 ∨ j = 31 ∨ j = 32 ∨ j = 33 ∨ j = 34 ∨ j = 35 ∨ j = 36 by omega) with rfl | rfl | rfl | rfl | rfl | rfl | rfl | rfl | rfl | rfl | rfl | rfl | rfl | rfl | rfl | rfl | rfl | rfl | rfl | rfl | rfl | rfl | rfl | rfl | rfl | rfl | rfl | rfl | rfl | rfl | rfl | rfl | rfl | rfl | rfl | rfl | rfl <;> rfl) (Nat.le_of_ble_eq_true rfl) (Nat.le_of_ble_eq_true rfl) dl8 (fun y0 H hP hD hS => ?_)
  have hP : va_P D vwCl (kw_W (rX, D, kc_cl cI cII cC) KX kc_SX ++ [(y0, .inr (8, [.int 0, .null, .int 0, .long 0, .long 0, .null, .null, .null, .null, .null, .int 0, .int 0, .null, .null, .null, .null, .null, .int 0, .int 0, .int 0, .null, .null, .int 0, .int 0, .int 0, .int 0, .null, .int 0, .null, .null, .null, .null, .null, .null, .null, .null, .long 0]))]) H := hP
  have hD : va_D A (kw_W (rX, D, kc_cl cI cII cC) KX kc_SX ++ [(y0, .inr (8, [.int 0, .null, .int 0, .long 0, .long 0, .null, .null, .null, .null, .null, .int 0, .int 0, .null, .null, .null, .null, .null, .int 0, .int 0, .int 0, .null, .null, .int 0, .int 0, .int 0, .int 0, .null, .int 0, .null, .null, .null, .null, .null, .null, .null, .null, .long 0]))]) := hD
  refine W.widen (k := 62) (n := 1395) (Nat.le_of_ble_eq_true rfl) (Nat.le_of_ble_eq_true rfl) ?_
  refine lv_dup hx hb (show decode code 11 = .ok (.dup, 1) from kc_dec kl_t 5 rfl) rfl ?_
  have hPc := kc_last hP
  have hDc := kc_lastD hD
  have hFc := kc_freeL hD hS hA
  have dl12 : decode code 12 = .ok (.invokespecial 12, 3) := kc_dec kl_t 6 rfl
  refine va_callv (va_runI (b := y0) (As := []) (rest := [.ref y0]) ⟨hx, hb, hml, hown, htk⟩ (k_X8_init l D cI cII cC y0 H.size) (cwI 0 htk (kw_good wCX8_init (fun w h => h)) rfl rfl rfl (htk _ wNX8) (htk _ kmL_12) (htk _ wIX8_init) rfl (by decide +kernel) ⟨Nat.le_of_ble_eq_true rfl, Nat.le_of_ble_eq_true rfl⟩) ⟨kc_blind, fun U hU hW => ⟨rfl, by rw [hU], by rw [hU]; exact hPc, va_K.moved hW.alike hK, hDc.weaken (fun _ _ _ _ => trivial), hSt.next hW⟩⟩ rfl rfl hl.1 rfl (lv_room (Nat.le_of_ble_eq_true rfl)) dl12 ⟨Nat.le_of_ble_eq_true rfl, Nat.le_of_ble_eq_true rfl⟩) hS (fun q _ h => hFc q h) hFc (fun u t H1 locs ht hvm hw hB hz1 hk1 hS => ?_)
  obtain ⟨rM, hrM, hP1, hD1⟩ := hB
  rw [ht] at hP1
  obtain ⟨hP, hD⟩ := kc_joinL (by simp [kw_W, kw_KXl]) hP hD hk1 hFc hP1 hD1
  clear hPc hDc hP1 hD1
  generalize H1 = H at hP hS ⊢
  refine W.widen (k := 84) (n := 4152) (Nat.le_of_ble_eq_true rfl) (Nat.le_of_ble_eq_true rfl) ?_
  refine lv_astore_n (lv' := [(2, .ref y0), (1, .ref x0), (0, .ref b)]) hx hb (show decode code 15 = .ok (.astore_n 2, 1) from kc_dec kl_t 7 rfl) rfl hl (by decide) rfl (fun ls hl => ?_)
  refine lv_iconst (v := 0) hx hb (show decode code 16 = .ok (.iconst 0, 1) from kc_dec kl_t 8 rfl) (by decide) ?_
  refine lv_istore_n (lv' := [(3, .int 0), (2, .ref y0), (1, .ref x0), (0, .ref b)]) hx hb (show decode code 17 = .ok (.istore_n 3, 1) from kc_dec kl_t 9 rfl) rfl hl (by decide) rfl (fun ls hl => ?_)
  obtain ⟨G, eG⟩ : ∃ G : kw_G, G = (fun a => if a = 1000 then tL else if a = 1001 then tK else if a = 1002 then b else if a < 61 then rX a else rM (a - 61), D, kc_cl cI cII cC) := ⟨_, rfl⟩
  have eW : kw_W G KJ (kw_mixM kc_SX kc_SM) = kw_W (rX, D, kc_cl cI cII cC) KX kc_SX ++ kw_W (rM, D, kc_cl cI cII cC) KM kc_SM := by
    rw [kc_WJ, kw_sh_mixM]
    have e1 : kw_W G KX (kw_mixM kc_SX kc_SM) = kw_W (rX, D, kc_cl cI cII cC) KX kc_SX := by
      refine kc_Wcong (n := 61) kc_KXlow (by rw [kw_KXl]; decide) (fun b1 hb1 => ?_) (by rw [eG]) (fun a ha => ?_) (fun a ha => ?_)
      · rw [eG]; simp only; rw [if_neg (by omega), if_neg (by omega), if_neg (by omega), if_pos hb1]
      · simp only [kw_mixM, ha, if_true]
      · simp only [kw_mixM, ha, if_true]
    have e2 : kw_W (kw_shG 61 G) KM kc_SM = kw_W (rM, D, kc_cl cI cII cC) KM kc_SM := by
      refine kc_Wcong (n := 23) kc_KMlow (by rw [kw_KMl]; decide) (fun b1 hb1 => ?_) (by rw [eG]; rfl) (fun _ _ => rfl) (fun _ _ => rfl)
      rw [eG]; simp only [kw_shG]; rw [if_pos (by omega), if_neg (by omega), if_neg (by omega), if_neg (by omega), if_neg (by omega), show 61 + b1 - 61 = b1 by omega]
    rw [e1, e2]
  rw [← eW] at hP hD
  have hG0 : G.1 0 = x0 := by rw [eG]; exact hrX
  have hG61 : G.1 61 = y0 := by rw [eG]; exact hrM
  have hGb : G.1 1002 = b := by rw [eG]; rfl
  have hGL : G.1 1000 = tL := by rw [eG]; rfl
  have hGK : G.1 1001 = tK := by rw [eG]; rfl
  have hGD : G.2.1 = D := by rw [eG]
  have hGt : kw_tys G = kc_tys cI cII cC := by rw [eG]; rfl
  generalize hσ : kw_mixM kc_SX kc_SM = σ at hP hD
  have hIX : kw_I bX σ := by rw [← hσ]; exact kw_IX_mixM kc_IX
  have hIM : kw_I (bM 0) (kw_sh 61 σ) := by rw [← hσ, kw_sh_mixM]; exact kc_IM
  have hR0 : kr_R σ (kw_sh 61 σ) := by rw [← hσ, kw_sh_mixM]; exact ⟨kr_T0, kr_L0⟩
  have hTX : va_T .int b L (fun j => .int (xs j)) A s s.heap := by
    obtain ⟨scr, h1, h2, h3, h4, h5⟩ := hX
    exact ⟨scr, h1, h2, h3, by omega, by rw [h4], h5, by rw [hAe]; exact Nat.not_le.mpr hbl⟩
  have Cx : kw_Cx ((1002, L, xs) :: kw_E0) mL_law G A p s m #[Value.ref b] meth c := by
    refine ⟨hx, hb, hr, hlocks, hml, hown, htk, ?_, hA, ⟨?_, ?_, ?_, ?_, ?_⟩, kl_t⟩
    · rw [hGD, hGt]; exact hK
    · rw [hGL]; exact hZtL
    · rw [hGK]; exact hZtK
    · intro q hq
      rcases List.mem_cons.mp hq with rfl | hq
      · rw [hGb]; exact hTX
      · have hq : q ∈ [(1000, 6, kw_LT), (1001, 6, kw_KA)] := hq
        simp only [List.mem_cons, List.not_mem_nil, or_false] at hq
        rcases hq with rfl | rfl
        · rw [hGL]; exact hTtL
        · rw [hGK]; exact hTtK
    · exact fun q hq => va_Nw.of rfl (hts _ ((show ∀ q ∈ kw_NM, Cond.methodLinkNest q.1 q.2.1 q.2.2 "WashSails" ∈ lw_tbl by decide +kernel) q hq))
    · exact va_Nw.of rfl (hts _ (by decide +kernel))
  have Sx : kw_Sx KJ mL_law G A s H locs ls [(3, .int 0), (2, .ref 61), (1, .ref 0), (0, .ref 1002)] σ := by
    refine ⟨by rw [hGD]; exact hP, hD, hS, ?_⟩
    show lv_has ls 4 [(3, .int 0), (2, .ref (G.1 61)), (1, .ref (G.1 0)), (0, .ref (G.1 1002))]
    rw [hG61, hG0, hGb]; exact hl
  refine kl_loop l L xs hL _ 0 σ 0 hIX hIM hR0 (by decide) (by decide) (by decide) (by decide) (Nat.lt_succ_self _) p e room_1 s m #[Value.ref b] below meth c H locs 84 4152 _ ls G A Cx Sx ⟨by decide, by decide, by decide, by decide⟩ ?_
  intro v σ' H' locs' ls' pc' ins hv hP' hS' hdec hret
  have hv : v = some (.int 1) := hv
  subst hv
  rcases hret with ⟨-, -, h3⟩ | ⟨ty, x, rfl, -, h3, -⟩ | ⟨x, -, -, h3⟩
  · cases h3
  · refine va_forget (fun q hq => by have := hS'.2.2 q hq; rw [hAe] at this; exact this) ?_
    exact W.widen (k := 600000) (n := 7302250) (by decide) (by decide) (lw_ret hx hb hr hlocks hdec)
  · cases h3
end
