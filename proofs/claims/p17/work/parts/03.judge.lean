/-! ===== the tables that every method is given; what stands still: two static rows, links of nest mates ===== -/
def kw_ws : List Cond := lw_tbl.filter goodWord
theorem kw_ws_in {w : Cond} (h : w ∈ lw_tbl) (hg : goodWord w = true) : w ∈ kw_ws := List.mem_filter.mpr ⟨h, hg⟩
theorem kw_good {c : Cond} {ws : List Cond} (hc : c ∈ kw_ws) (h : ∀ w ∈ kw_ws, w ∈ ws) : GoodIn ws (c :: kw_ws) := by
  intro w hw
  have hw' : w ∈ kw_ws := by
    rcases List.mem_cons.mp hw with rfl | h1
    · exact hc
    · exact h1
  exact ⟨h w hw', good_of_word (List.mem_filter.mp hw').2⟩
def kw_LT (j : Nat) : Int32 := ([108, 115, 98, 107, 111, 112] : List Int32).getD j 0
def kw_KA (j : Nat) : Int32 := ([-1, 0, 0, 0, 1, 4] : List Int32).getD j 0
def kw_E0 : kw_E := [(1000, 6, kw_LT), (1001, 6, kw_KA)]
def kw_NM : List (String × Nat × MethodName) := [("WashSails$Layout", 48, ⟨"WashSails", "pull", "(III)I"⟩), ("WashSails$Town", 90, ⟨"WashSails", "weather", "([III)V"⟩), ("WashSails$Layout", 61, ⟨"WashSails", "isA", "(II)Z"⟩)]
def kw_St (G : kw_G) (E : kw_E) (A : Nat → Prop) (U : State) (H : Heap) : Prop :=
  va_Z "WashSails" "LETTERS" "[I" (.ref (G.1 1000)) A U H ∧ va_Z "WashSails" "KIND_ABOVE" "[I" (.ref (G.1 1001)) A U H ∧ (∀ q ∈ E, va_T .int (G.1 q.1) q.2.1 (fun j => .int (q.2.2 j)) A U H) ∧ (∀ q ∈ kw_NM, va_Nw (.methodLinkNest q.1 q.2.1 q.2.2 "WashSails") U) ∧ va_Nw (.fieldLinkNest "WashSails$Reader" 72 "WashSails" "LETTERS" "[I" "WashSails") U
theorem kw_St.calling {G : kw_G} {E : kw_E} {A : Nat → Prop} {U : State} {H : Heap} (h : kw_St G E A U H) (g : JFrame) (mk : MethodId) (a : Array Value) : kw_St G E A (U.calling g mk a) H :=
  ⟨va_Z.moved (u := U) (U := U.calling g mk a) (Vm.Alike.refl U.vm) h.1, va_Z.moved (u := U) (U := U.calling g mk a) (Vm.Alike.refl U.vm) h.2.1, fun q hq => va_T.moved (u := U) (U := U.calling g mk a) (Vm.Alike.refl U.vm) (h.2.2.1 q hq), fun q hq => va_Nw.same (u := U) (U := U.calling g mk a) rfl rfl (h.2.2.2.1 q hq), va_Nw.same (u := U) (U := U.calling g mk a) rfl rfl h.2.2.2.2⟩
theorem kw_St.next {G : kw_G} {E E' : kw_E} {A A' : Nat → Prop} {s U : State} {H locs} (h : kw_St G E A s s.heap) (hE : ∀ q ∈ E', q ∈ E) (hW : s.WarmedH U.vm) (hS : va_S A s.heap H locs) (hA : ∀ q, A' q → A q) : kw_St G E' A' U H := by
  have hk : ∀ a : Nat, a < s.heap.size → ¬ A a → H[a]? = s.heap[a]? := fun a h1 h2 => hS.2.1 a h1 h2
  exact ⟨((h.1.moved hW.alike).kept hk).narrow hA, ((h.2.1.moved hW.alike).kept hk).narrow hA, fun q hq => (((h.2.2.1 q (hE q hq)).moved hW.alike).kept hk).narrow hA, fun q hq => va_Nw.warmM hW (h.2.2.2.1 q hq), va_Nw.warmF hW h.2.2.2.2⟩
/-! ===== the judgement ===== -/
/-- what is fixed while a method runs -/
def kw_Cx (E : kw_E) (M : kw_M) (G : kw_G) (A : Nat → Prop) (p : Program) (s : State) (m : MethodId) (args : Array Value) (meth : Method) (c : Code) : Prop :=
  p.tables.exec = Jvm.exec ∧ c.code = M.1.2.2.1 ∧ meth.sig.returnType = M.1.2.2.2.2 ∧ meth.locks = false ∧ c.maxLocals = M.1.2.2.2.1 ∧ s.vm.findClass M.1.1 = some m.cls ∧ (∀ w ∈ kw_ws, w.before args s = true) ∧ va_K G.2.1 vwCl (kw_tys G) s ∧ (∀ q : Nat, s.heap.size ≤ q → A q) ∧ kw_St G E A s s.heap ∧ (∀ q ∈ M.2, decode M.1.2.2.1 q.1 = .ok q.2)
/-- what moves -/
def kw_Sx (K : List kw_K1) (M : kw_M) (G : kw_G) (A : Nat → Prop) (s : State) (H : Heap) (locs : List Loc) (ls : Array Slot) (lv : List (Nat × Value)) (σ : kw_S) : Prop :=
  va_P G.2.1 vwCl (kw_W G K σ) H ∧ va_D A (kw_W G K σ) ∧ va_S A s.heap H locs ∧ lv_has ls M.1.2.2.2.1 (lv.map (fun q => (q.1, kw_rv G.1 q.2)))
def kw_ret (ret : Option FieldType) (ins : Instr) (v : Option Value) : Prop := (ins = .return_ ∧ ret = none ∧ v = none) ∨ (∃ (ty : FieldType) (x : Int32), ins = .ireturn ∧ ret = some ty ∧ v = some (.int x) ∧ narrow ty (.int x) = .int x) ∨ (∃ x : Int64, ins = .lreturn ∧ ret = some .long ∧ v = some (.long x))
/-- what is owed at the method's end -/
def kw_Fin (l : Launch) (K : List kw_K1) (M : kw_M) (P : Option Value → kw_S → Prop) (G : kw_G) (A : Nat → Prop) (p : Program) (e : Env) (R : Room) (s : State) (m : MethodId) (args : Array Value) (below : List Frame) (meth : Method) (c : Code) (cells slots : Nat) (Q : State → Prop) : Prop :=
  ∀ (v : Option Value) (σ' : kw_S) (H' : Heap) (locs' : List Loc) (ls' : Array Slot) (pc' : Nat) (ins : Instr), P v σ' → va_P G.2.1 vwCl (kw_W G K σ') H' → va_S A s.heap H' locs' → decode M.1.2.2.1 pc' = .ok (ins, 1) → kw_ret M.1.2.2.2.2 ins v → W p l e R s m args below meth c H' locs' cells slots Q (F0 m pc' ls' (v.toList.map (kw_rv G.1)))
def kw_AW (l : Launch) (d : Nat) (E : kw_E) (K : List kw_K1) (M : kw_M) (P : Option Value → kw_S → Prop) (pc : Nat) (lv : List (Nat × Value)) (st : List Value) (σ : kw_S) : Prop :=
  ∀ (p : Program) (e : Env) (R : Room) (s : State) (m : MethodId) (args : Array Value) (below : List Frame) (meth : Method) (c : Code) (H : Heap) (locs : List Loc) (cells slots : Nat) (Q : State → Prop) (ls : Array Slot) (G : kw_G) (A : Nat → Prop),
    kw_Cx E M G A p s m args meth c → kw_Sx K M G A s H locs ls lv σ → (d ≤ R.frames ∧ 60 * d ≤ R.locals ∧ cells ≤ R.cells ∧ slots ≤ R.slots) → kw_Fin l K M P G A p e R s m args below meth c cells slots Q →
    W p l e R s m args below meth c H locs cells slots Q (F0 m pc ls (st.map (kw_rv G.1)))
def kw_rm (d : Nat) : Room := { frames := d, cells := 0, slots := 0, locals := 60 * d }
def kw_Q (G : kw_G) (K : List kw_K1) (P : Option Value → kw_S → Prop) (A : Nat → Prop) : Array Value → State → Outcome → State → Prop := fun _ st oc t =>
  (∃ (v : Option Value) (σ' : kw_S), oc = .returned (v.map (kw_rv G.1)) ∧ P v σ' ∧ va_P G.2.1 vwCl (kw_W G K σ') t.heap) ∧ va_F A st t
def kw_Pre (G : kw_G) (K : List kw_K1) (σ : kw_S) (sz : Nat) (As : List Value) : Array Value → State → Prop :=
  va_Pc (As.map (kw_rv G.1)) (fun U => U.heap.size = sz ∧ va_P G.2.1 vwCl (kw_W G K σ) U.heap ∧ va_K G.2.1 vwCl (kw_tys G) U ∧ va_D (fun _ => True) (kw_W G K σ) ∧ kw_St G kw_E0 (va_A (kw_W G K σ) sz) U U.heap)
/-- a method's contract over the state -/
def kw_Met (l : Launch) (d : Nat) (K : List kw_K1) (M : kw_M) (As : List Value) (σ : kw_S) (P : Option Value → kw_S → Prop) : Prop :=
  ∀ (G : kw_G) (sz : Nat), Met l M.1.2.1 (.code M.1.2.1 M.1.2.2.1 M.1.2.2.2.1 M.1.2.2.2.2 :: kw_ws) (kw_rm d) (kw_Pre G K σ sz As) (kw_Q G K P (va_A (kw_W G K σ) sz)) 0 0 (va_A (kw_W G K σ) sz)
theorem kw_blind {G : kw_G} {K : List kw_K1} {σ : kw_S} {sz : Nat} {As : List Value} : FrameBlind (kw_Pre G K σ sz As) := by
  intro a U g mk q
  obtain ⟨q0, q1, qP, qK, qD, qS⟩ := q
  exact ⟨q0, q1, qP, va_K.moved (u := U) (U := U.calling g mk a) (Vm.Alike.refl U.vm) qK, qD, qS.calling g mk a⟩
theorem kw_cat (ad : Nat → Nat) (v : Value) : (kw_rv ad v).category = v.category := by cases v <;> rfl
theorem kw_args (ad : Nat → Nat) : ∀ (vs : List Value) (i : Nat), lv_args i (vs.map (kw_rv ad)) = (lv_args i vs).map (fun q => (q.1, kw_rv ad q.2))
  | [], _ => rfl
  | v :: vs, i => by
    simp only [List.map_cons, lv_args, kw_cat]
    rw [kw_args ad vs]
theorem kw_sl (ad : Nat → Nat) (vs : List Value) : (lg_sl (vs.map (kw_rv ad))).length = (lg_sl vs).length := by
  induction vs with
  | nil => rfl
  | cons v t ih =>
    simp only [lg_sl, List.map_cons, List.flatMap_cons, List.length_append, kw_cat] at ih ⊢
    rw [ih]
    congr 1
    split <;> rfl
/-- the contract out of the walk -/
theorem kw_Met.of {l : Launch} {d : Nat} {K : List kw_K1} {M : kw_M} {As : List Value} {σ : kw_S} {P : Option Value → kw_S → Prop} (hy : plainName M.1.2.1.cls = true) (hown : M.1.2.1.cls = M.1.1) (htab : ∀ q ∈ M.2, decode M.1.2.2.1 q.1 = .ok q.2) (hn : (lg_sl As).length ≤ M.1.2.2.2.1)
    (h : kw_AW l d kw_E0 K M P 0 (lv_args 0 As) [] σ) : kw_Met l d K M As σ P := by
  intro G sz
  refine Met.ofW (cc := M.1.2.2.1) (maxL := M.1.2.2.2.1) (ret := M.1.2.2.2.2) hy rfl ?_
  intro p e s m args below meth c s₁ B hml hv
  obtain ⟨rfl, hsz, hP, hK, hD0, hSt⟩ := hv
  have hx := B.exec
  have hb := B.bytes
  have hr := B.returns
  have hts := atoms_spec (ws := .code M.1.2.1 M.1.2.2.1 M.1.2.2.2.1 M.1.2.2.2.2 :: kw_ws) B.pre
  have hfc : s.vm.findClass M.1.1 = some m.cls := by rw [← hown]; exact findClass_of_methodNamed B.named
  have hlocks := B.notSynchronized
  subst hsz
  have hD := hD0.self (sz := s.heap.size)
  have hA : ∀ q : Nat, s.heap.size ≤ q → va_A (kw_W G K σ) s.heap.size q := fun q h => Or.inr h
  have hS : va_S (va_A (kw_W G K σ) s.heap.size) s.heap s.heap [] := va_S.rf
  have hl := lv_entry (As.map (kw_rv G.1)) (n := M.1.2.2.2.1) (by rw [kw_sl]; exact hn)
  rw [kw_args] at hl
  rw [lg_entry_eq]
  generalize (lg_sl (As.map (kw_rv G.1)) ++ List.replicate (M.1.2.2.2.1 - (lg_sl (As.map (kw_rv G.1))).length) Slot.unset).toArray = ls at hl ⊢
  refine h p e (kw_rm d) s m _ below meth c s.heap [] 0 0 _ ls G (va_A (kw_W G K σ) s.heap.size) ⟨hx, hb, hr, hlocks, hml, hfc, fun w hw => hts w (List.mem_cons_of_mem _ hw), hK, hA, hSt, htab⟩ ⟨hP, hD, hS, hl⟩ ⟨Nat.le_refl _, Nat.le_refl _, Nat.le_refl _, Nat.le_refl _⟩ ?_
  intro v σ' H' locs' ls' pc' ins hPv hP' hS' hdec hret
  have hq : ∀ t : State, t.heap = H' → s.WarmedH t.vm → kw_Q G K P (va_A (kw_W G K σ) s.heap.size) (As.map (kw_rv G.1)).toArray s (.returned (v.map (kw_rv G.1))) t := fun t ht _ => ⟨⟨v, σ', rfl, hPv, by rw [ht]; exact hP'⟩, hS'.F ht⟩
  rcases hret with ⟨rfl, h2, rfl⟩ | ⟨ty, x, rfl, h2, rfl, h4⟩ | ⟨x, rfl, h2, rfl⟩
  · exact W.vret hx hb (hr.trans h2) hq hS'.2.2 hdec
  · exact W.zret hx hb (hr.trans h2) h4 hq hS'.2.2 hdec
  · exact W.lret hx hb (hr.trans h2) hq hS'.2.2 hdec
