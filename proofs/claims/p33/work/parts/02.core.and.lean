section
/-! ===== a system whose cells stand: the state is ints and longs by cell and place; a frame's judgement over it ===== -/
abbrev kw_S : Type := (Nat → Nat → Int32) × (Nat → Nat → Int64)
abbrev kw_K1 : Type := (Nat ⊕ (Nat × List Nat)) ⊕ (Nat × List Value)
abbrev kw_G : Type := (Nat → Nat) × va_G × (Nat → ClassId)
abbrev kw_M : Type := (String × MethodName × ByteArray × Nat × Option FieldType) × List (Nat × Instr × Nat)
abbrev kw_E : Type := List (Nat × Nat × (Nat → Int32))
def kw_rv (ad : Nat → Nat) (v : Value) : Value := match v with
  | .ref a => .ref (ad a)
  | w => w
def kw_fv (ad : Nat → Nat) (σ : kw_S) (a j : Nat) (t : Value) : Value := match t with
  | .int _ => .int (σ.1 a j)
  | .long _ => .long (σ.2 a j)
  | w => kw_rv ad w
def kw_fill (ad : Nat → Nat) (σ : kw_S) (a : Nat) (fs : List Value) : List Value := fs.mapIdx (kw_fv ad σ a)
def kw_cell (G : kw_G) (σ : kw_S) (a : Nat) (k : kw_K1) : va_E := match k with
  | .inl (.inl n) => .inl (G.2.2 0, n, .inl (σ.1 a))
  | .inl (.inr (t, rs)) => .inl (G.2.2 t, rs.length, .inr (.inr (.inr (.inr (fun j => (rs[j]?).map G.1)))))
  | .inr (ci, fs) => .inr (ci, kw_fill G.1 σ a fs)
def kw_W (G : kw_G) (K : List kw_K1) (σ : kw_S) : va_W := K.mapIdx (fun a k => (G.1 a, kw_cell G σ a k))
theorem kw_W_get (G : kw_G) (K : List kw_K1) (σ : kw_S) (a : Nat) : (kw_W G K σ)[a]? = (K[a]?).map (fun k => (G.1 a, kw_cell G σ a k)) := by
  simp [kw_W, List.getElem?_mapIdx]
theorem kw_W_at {G : kw_G} {K : List kw_K1} {σ : kw_S} {a : Nat} {k : kw_K1} (h : K[a]? = some k) : (kw_W G K σ)[a]? = some (G.1 a, kw_cell G σ a k) := by
  rw [kw_W_get, h]; rfl
theorem kw_cell_eq {G : kw_G} {σ σ' : kw_S} {a : Nat} (h1 : σ.1 a = σ'.1 a) (h2 : σ.2 a = σ'.2 a) (k : kw_K1) : kw_cell G σ a k = kw_cell G σ' a k := by
  rcases k with (n | ⟨t, rs⟩) | ⟨ci, fs⟩
  · simp [kw_cell, h1]
  · rfl
  · have e : kw_fv G.1 σ a = kw_fv G.1 σ' a := by
      funext j t
      cases t <;> simp [kw_fv, h1, h2]
    simp [kw_cell, kw_fill, e]
theorem kw_W_set {G : kw_G} {K : List kw_K1} {σ σ' : kw_S} {a : Nat} {k : kw_K1} {e : va_E} (hk : K[a]? = some k) (hc : kw_cell G σ' a k = e) (h1 : ∀ b, b ≠ a → σ.1 b = σ'.1 b) (h2 : ∀ b, b ≠ a → σ.2 b = σ'.2 b) : (kw_W G K σ).set a (G.1 a, e) = kw_W G K σ' := by
  apply List.ext_getElem?
  intro b
  by_cases hb : b = a
  · subst hb
    have hl : b < (kw_W G K σ).length := (List.getElem?_eq_some_iff.mp (kw_W_at (G := G) (σ := σ) hk)).1
    rw [List.getElem?_set_self hl, kw_W_at hk, hc]
  · rw [List.getElem?_set_ne (Ne.symm hb), kw_W_get, kw_W_get]
    cases K[b]? with
    | none => rfl
    | some k => simp only [Option.map_some]; rw [kw_cell_eq (h1 b hb) (h2 b hb)]
def kw_ui (σ : kw_S) (a i : Nat) (x : Int32) : kw_S := (fun b => if b = a then upd (σ.1 a) i x else σ.1 b, σ.2)
def kw_ul (σ : kw_S) (a i : Nat) (x : Int64) : kw_S := (σ.1, fun b => if b = a then vp_updL (σ.2 a) i x else σ.2 b)
def kw_ua (σ : kw_S) (a : Nat) (f : Nat → Int32) : kw_S := (fun b => if b = a then f else σ.1 b, σ.2)
theorem kw_fill_get (ad : Nat → Nat) (σ : kw_S) (a : Nat) (fs : List Value) (j : Nat) : (kw_fill ad σ a fs)[j]? = (fs[j]?).map (kw_fv ad σ a j) := by
  simp [kw_fill, List.getElem?_mapIdx]
theorem kw_fill_seti {ad : Nat → Nat} {σ : kw_S} {a : Nat} {fs : List Value} {j : Nat} {z x : Int32} (h : fs[j]? = some (.int z)) : (kw_fill ad σ a fs).set j (.int x) = kw_fill ad (kw_ui σ a j x) a fs := by
  apply List.ext_getElem?
  intro i
  by_cases hi : i = j
  · subst hi
    have hl : i < (kw_fill ad σ a fs).length := by
      have := (List.getElem?_eq_some_iff.mp h).1
      simp [kw_fill, this]
    rw [List.getElem?_set_self hl, kw_fill_get, h]
    simp [kw_fv, kw_ui, upd]
  · rw [List.getElem?_set_ne (Ne.symm hi), kw_fill_get, kw_fill_get]
    cases fs[i]? with
    | none => rfl
    | some t => cases t <;> simp [kw_fv, kw_ui, upd, hi]
theorem kw_fill_setl {ad : Nat → Nat} {σ : kw_S} {a : Nat} {fs : List Value} {j : Nat} {z x : Int64} (h : fs[j]? = some (.long z)) : (kw_fill ad σ a fs).set j (.long x) = kw_fill ad (kw_ul σ a j x) a fs := by
  apply List.ext_getElem?
  intro i
  by_cases hi : i = j
  · subst hi
    have hl : i < (kw_fill ad σ a fs).length := by
      have := (List.getElem?_eq_some_iff.mp h).1
      simp [kw_fill, this]
    rw [List.getElem?_set_self hl, kw_fill_get, h]
    simp [kw_fv, kw_ul, vp_updL]
  · rw [List.getElem?_set_ne (Ne.symm hi), kw_fill_get, kw_fill_get]
    cases fs[i]? with
    | none => rfl
    | some t => cases t <;> simp [kw_fv, kw_ul, vp_updL, hi]
theorem kw_W_ui {G : kw_G} {K : List kw_K1} {σ : kw_S} {a n i : Nat} {x : Int32} (hk : K[a]? = some (.inl (.inl n))) : (kw_W G K σ).set a (G.1 a, .inl (G.2.2 0, n, .inl (upd (σ.1 a) i x))) = kw_W G K (kw_ui σ a i x) :=
  kw_W_set hk (by simp [kw_cell, kw_ui]) (fun b hb => by simp [kw_ui, hb]) (fun _ _ => rfl)
theorem kw_W_ua {G : kw_G} {K : List kw_K1} {σ : kw_S} {a n : Nat} {f : Nat → Int32} (hk : K[a]? = some (.inl (.inl n))) : (kw_W G K σ).set a (G.1 a, .inl (G.2.2 0, n, .inl f)) = kw_W G K (kw_ua σ a f) :=
  kw_W_set hk (by simp [kw_cell, kw_ua]) (fun b hb => by simp [kw_ua, hb]) (fun _ _ => rfl)
theorem kw_W_pi {G : kw_G} {K : List kw_K1} {σ : kw_S} {a ci j : Nat} {fs : List Value} {x z : Int32} (hk : K[a]? = some (.inr (ci, fs))) (hf : fs[j]? = some (.int z)) : (kw_W G K σ).set a (G.1 a, .inr (ci, (kw_fill G.1 σ a fs).set j (.int x))) = kw_W G K (kw_ui σ a j x) :=
  kw_W_set hk (by show Sum.inr _ = _; rw [kw_fill_seti hf]) (fun b hb => by simp [kw_ui, hb]) (fun _ _ => rfl)
theorem kw_W_pl {G : kw_G} {K : List kw_K1} {σ : kw_S} {a ci j : Nat} {fs : List Value} {x z : Int64} (hk : K[a]? = some (.inr (ci, fs))) (hf : fs[j]? = some (.long z)) : (kw_W G K σ).set a (G.1 a, .inr (ci, (kw_fill G.1 σ a fs).set j (.long x))) = kw_W G K (kw_ul σ a j x) :=
  kw_W_set hk (by show Sum.inr _ = _; rw [kw_fill_setl hf]) (fun _ _ => rfl) (fun b hb => by simp [kw_ul, hb])
theorem kw_W_same {G : kw_G} {K : List kw_K1} (σ σ' : kw_S) {i : Nat} {q : Nat × va_E} (h : (kw_W G K σ)[i]? = some q) : ∃ q' : Nat × va_E, (kw_W G K σ')[i]? = some q' ∧ q'.1 = q.1 := by
  rw [kw_W_get] at h
  cases hk : K[i]? with
  | none => rw [hk] at h; cases h
  | some k =>
    rw [hk] at h
    cases h
    exact ⟨_, kw_W_at hk, rfl⟩
theorem kw_D {G : kw_G} {K : List kw_K1} {σ : kw_S} (σ' : kw_S) {A : Nat → Prop} (h : va_D A (kw_W G K σ)) : va_D A (kw_W G K σ') := by
  refine ⟨fun i j p q hi hj hpq => ?_, fun k q hk => ?_⟩
  · obtain ⟨p', h1, h2⟩ := kw_W_same σ' σ hi
    obtain ⟨q', h3, h4⟩ := kw_W_same σ' σ hj
    exact h.1 i j p' q' h1 h3 (h2.trans (hpq.trans h4.symm))
  · obtain ⟨q', h1, h2⟩ := kw_W_same σ' σ hk
    rw [← h2]
    exact h.2 k q' h1
theorem kw_A {G : kw_G} {K : List kw_K1} {σ : kw_S} (σ' : kw_S) {sz q : Nat} (h : va_A (kw_W G K σ) sz q) : va_A (kw_W G K σ') sz q := by
  rcases h with ⟨k, e, h⟩ | h
  · obtain ⟨q', h1, h2⟩ := kw_W_same σ σ' h
    obtain ⟨x, y⟩ := q'
    cases h2
    exact Or.inl ⟨k, y, h1⟩
  · exact Or.inr h
abbrev kw_tys (G : kw_G) : List (ClassId × FieldType) := [(G.2.2 0, .int), (G.2.2 1, .array .int), (G.2.2 2, .object "WashSails$Chart")]
end
section
/-! ===== the tables that every method is given; what stands still: two static rows, links of nest mates ===== -/
def kw_ws : List Cond := lw_tbl.filter goodWord
theorem kw_ws_in {w : Cond} (h : w ∈ lw_tbl) (hg : goodWord w = true) : w ∈ kw_ws := List.mem_filter.mpr ⟨h, hg⟩
theorem kw_good {c : Cond} {ws : List Cond} (hc : c ∈ kw_ws) (h : ∀ w ∈ kw_ws, w ∈ ws) : GoodIn ws (c :: kw_ws) := by
  intro w hw
  have hw' : w ∈ kw_ws := by
    rcases List.mem_cons.mp hw with rfl | h1
    · exact hc
    · exact h1
  exact ⟨h w hw', good_of_word (List.mem_filter.mp hw').2⟩
def kw_LT (j : Nat) : Int32 := ([108, 115, 98, 107, 111, 112] : List Int32).getD j 0
def kw_KA (j : Nat) : Int32 := ([-1, 0, 0, 0, 1, 4] : List Int32).getD j 0
def kw_E0 : kw_E := [(1000, 6, kw_LT), (1001, 6, kw_KA)]
def kw_NM : List (String × Nat × MethodName) := [("WashSails$Layout", 48, ⟨"WashSails", "pull", "(III)I"⟩), ("WashSails$Town", 90, ⟨"WashSails", "weather", "([III)V"⟩), ("WashSails$Layout", 61, ⟨"WashSails", "isA", "(II)Z"⟩)]
def kw_St (G : kw_G) (E : kw_E) (A : Nat → Prop) (U : State) (H : Heap) : Prop :=
  va_Z "WashSails" "LETTERS" "[I" (.ref (G.1 1000)) A U H ∧ va_Z "WashSails" "KIND_ABOVE" "[I" (.ref (G.1 1001)) A U H ∧ (∀ q ∈ E, va_T .int (G.1 q.1) q.2.1 (fun j => .int (q.2.2 j)) A U H) ∧ (∀ q ∈ kw_NM, va_Nw (.methodLinkNest q.1 q.2.1 q.2.2 "WashSails") U) ∧ va_Nw (.fieldLinkNest "WashSails$Reader" 72 "WashSails" "LETTERS" "[I" "WashSails") U
theorem kw_St.calling {G : kw_G} {E : kw_E} {A : Nat → Prop} {U : State} {H : Heap} (h : kw_St G E A U H) (g : JFrame) (mk : MethodId) (a : Array Value) : kw_St G E A (U.calling g mk a) H :=
  ⟨va_Z.moved (u := U) (U := U.calling g mk a) (Vm.Alike.refl U.vm) h.1, va_Z.moved (u := U) (U := U.calling g mk a) (Vm.Alike.refl U.vm) h.2.1, fun q hq => va_T.moved (u := U) (U := U.calling g mk a) (Vm.Alike.refl U.vm) (h.2.2.1 q hq), fun q hq => va_Nw.same (u := U) (U := U.calling g mk a) rfl rfl (h.2.2.2.1 q hq), va_Nw.same (u := U) (U := U.calling g mk a) rfl rfl h.2.2.2.2⟩
theorem kw_St.next {G : kw_G} {E E' : kw_E} {A A' : Nat → Prop} {s U : State} {H locs} (h : kw_St G E A s s.heap) (hE : ∀ q ∈ E', q ∈ E) (hW : s.WarmedH U.vm) (hS : va_S A s.heap H locs) (hA : ∀ q, A' q → A q) : kw_St G E' A' U H := by
  have hk : ∀ a : Nat, a < s.heap.size → ¬ A a → H[a]? = s.heap[a]? := fun a h1 h2 => hS.2.1 a h1 h2
  exact ⟨((h.1.moved hW.alike).kept hk).narrow hA, ((h.2.1.moved hW.alike).kept hk).narrow hA, fun q hq => (((h.2.2.1 q (hE q hq)).moved hW.alike).kept hk).narrow hA, fun q hq => va_Nw.warmM hW (h.2.2.2.1 q hq), va_Nw.warmF hW h.2.2.2.2⟩
/-! ===== the judgement ===== -/
/-- what is fixed while a method runs -/
def kw_Cx (E : kw_E) (M : kw_M) (G : kw_G) (A : Nat → Prop) (p : Program) (s : State) (m : MethodId) (args : Array Value) (meth : Method) (c : Code) : Prop :=
  p.tables.exec = Jvm.exec ∧ c.code = M.1.2.2.1 ∧ meth.sig.returnType = M.1.2.2.2.2 ∧ meth.locks = false ∧ c.maxLocals = M.1.2.2.2.1 ∧ s.vm.findClass M.1.1 = some m.cls ∧ (∀ w ∈ kw_ws, w.before args s = true) ∧ va_K G.2.1 vwCl (kw_tys G) s ∧ (∀ q : Nat, s.heap.size ≤ q → A q) ∧ kw_St G E A s s.heap ∧ (∀ q ∈ M.2, decode M.1.2.2.1 q.1 = .ok q.2)
/-- what moves -/
def kw_Sx (K : List kw_K1) (M : kw_M) (G : kw_G) (A : Nat → Prop) (s : State) (H : Heap) (locs : List Loc) (ls : Array Slot) (lv : List (Nat × Value)) (σ : kw_S) : Prop :=
  va_P G.2.1 vwCl (kw_W G K σ) H ∧ va_D A (kw_W G K σ) ∧ va_S A s.heap H locs ∧ lv_has ls M.1.2.2.2.1 (lv.map (fun q => (q.1, kw_rv G.1 q.2)))
def kw_ret (ret : Option FieldType) (ins : Instr) (v : Option Value) : Prop := (ins = .return_ ∧ ret = none ∧ v = none) ∨ (∃ (ty : FieldType) (x : Int32), ins = .ireturn ∧ ret = some ty ∧ v = some (.int x) ∧ narrow ty (.int x) = .int x) ∨ (∃ x : Int64, ins = .lreturn ∧ ret = some .long ∧ v = some (.long x))
/-- what is owed at the method's end -/
def kw_Fin (l : Launch) (K : List kw_K1) (M : kw_M) (P : Option Value → kw_S → Prop) (G : kw_G) (A : Nat → Prop) (p : Program) (e : Env) (R : Room) (s : State) (m : MethodId) (args : Array Value) (below : List Frame) (meth : Method) (c : Code) (cells slots : Nat) (Q : State → Prop) : Prop :=
  ∀ (v : Option Value) (σ' : kw_S) (H' : Heap) (locs' : List Loc) (ls' : Array Slot) (pc' : Nat) (ins : Instr), P v σ' → va_P G.2.1 vwCl (kw_W G K σ') H' → va_S A s.heap H' locs' → decode M.1.2.2.1 pc' = .ok (ins, 1) → kw_ret M.1.2.2.2.2 ins v → W p l e R s m args below meth c H' locs' cells slots Q (F0 m pc' ls' (v.toList.map (kw_rv G.1)))
def kw_AW (l : Launch) (d : Nat) (E : kw_E) (K : List kw_K1) (M : kw_M) (P : Option Value → kw_S → Prop) (pc : Nat) (lv : List (Nat × Value)) (st : List Value) (σ : kw_S) : Prop :=
  ∀ (p : Program) (e : Env) (R : Room) (s : State) (m : MethodId) (args : Array Value) (below : List Frame) (meth : Method) (c : Code) (H : Heap) (locs : List Loc) (cells slots : Nat) (Q : State → Prop) (ls : Array Slot) (G : kw_G) (A : Nat → Prop),
    kw_Cx E M G A p s m args meth c → kw_Sx K M G A s H locs ls lv σ → (d ≤ R.frames ∧ 60 * d ≤ R.locals ∧ cells ≤ R.cells ∧ slots ≤ R.slots) → kw_Fin l K M P G A p e R s m args below meth c cells slots Q →
    W p l e R s m args below meth c H locs cells slots Q (F0 m pc ls (st.map (kw_rv G.1)))
def kw_rm (d : Nat) : Room := { frames := d, cells := 0, slots := 0, locals := 60 * d }
def kw_Q (G : kw_G) (K : List kw_K1) (P : Option Value → kw_S → Prop) (A : Nat → Prop) : Array Value → State → Outcome → State → Prop := fun _ st oc t =>
  (∃ (v : Option Value) (σ' : kw_S), oc = .returned (v.map (kw_rv G.1)) ∧ P v σ' ∧ va_P G.2.1 vwCl (kw_W G K σ') t.heap) ∧ va_F A st t
def kw_Pre (G : kw_G) (K : List kw_K1) (σ : kw_S) (sz : Nat) (As : List Value) : Array Value → State → Prop :=
  va_Pc (As.map (kw_rv G.1)) (fun U => U.heap.size = sz ∧ va_P G.2.1 vwCl (kw_W G K σ) U.heap ∧ va_K G.2.1 vwCl (kw_tys G) U ∧ va_D (fun _ => True) (kw_W G K σ) ∧ kw_St G kw_E0 (va_A (kw_W G K σ) sz) U U.heap)
/-- a method's contract over the state -/
def kw_Met (l : Launch) (d : Nat) (K : List kw_K1) (M : kw_M) (As : List Value) (σ : kw_S) (P : Option Value → kw_S → Prop) : Prop :=
  ∀ (G : kw_G) (sz : Nat), Met l M.1.2.1 (.code M.1.2.1 M.1.2.2.1 M.1.2.2.2.1 M.1.2.2.2.2 :: kw_ws) (kw_rm d) (kw_Pre G K σ sz As) (kw_Q G K P (va_A (kw_W G K σ) sz)) 0 0 (va_A (kw_W G K σ) sz)
theorem kw_blind {G : kw_G} {K : List kw_K1} {σ : kw_S} {sz : Nat} {As : List Value} : FrameBlind (kw_Pre G K σ sz As) := by
  intro a U g mk q
  obtain ⟨q0, q1, qP, qK, qD, qS⟩ := q
  exact ⟨q0, q1, qP, va_K.moved (u := U) (U := U.calling g mk a) (Vm.Alike.refl U.vm) qK, qD, qS.calling g mk a⟩
theorem kw_cat (ad : Nat → Nat) (v : Value) : (kw_rv ad v).category = v.category := by cases v <;> rfl
theorem kw_args (ad : Nat → Nat) : ∀ (vs : List Value) (i : Nat), lv_args i (vs.map (kw_rv ad)) = (lv_args i vs).map (fun q => (q.1, kw_rv ad q.2))
  | [], _ => rfl
  | v :: vs, i => by
    simp only [List.map_cons, lv_args, kw_cat]
    rw [kw_args ad vs]
theorem kw_sl (ad : Nat → Nat) (vs : List Value) : (lg_sl (vs.map (kw_rv ad))).length = (lg_sl vs).length := by
  induction vs with
  | nil => rfl
  | cons v t ih =>
    simp only [lg_sl, List.map_cons, List.flatMap_cons, List.length_append, kw_cat] at ih ⊢
    rw [ih]
    congr 1
    split <;> rfl
/-- the contract out of the walk -/
theorem kw_Met.of {l : Launch} {d : Nat} {K : List kw_K1} {M : kw_M} {As : List Value} {σ : kw_S} {P : Option Value → kw_S → Prop} (hy : plainName M.1.2.1.cls = true) (hown : M.1.2.1.cls = M.1.1) (htab : ∀ q ∈ M.2, decode M.1.2.2.1 q.1 = .ok q.2) (hn : (lg_sl As).length ≤ M.1.2.2.2.1)
    (h : kw_AW l d kw_E0 K M P 0 (lv_args 0 As) [] σ) : kw_Met l d K M As σ P := by
  intro G sz
  refine Met.ofW (cc := M.1.2.2.1) (maxL := M.1.2.2.2.1) (ret := M.1.2.2.2.2) hy rfl ?_
  intro p e s m args below meth c s₁ B hml hv
  obtain ⟨rfl, hsz, hP, hK, hD0, hSt⟩ := hv
  have hx := B.exec
  have hb := B.bytes
  have hr := B.returns
  have hts := atoms_spec (ws := .code M.1.2.1 M.1.2.2.1 M.1.2.2.2.1 M.1.2.2.2.2 :: kw_ws) B.pre
  have hfc : s.vm.findClass M.1.1 = some m.cls := by rw [← hown]; exact findClass_of_methodNamed B.named
  have hlocks := B.notSynchronized
  subst hsz
  have hD := hD0.self (sz := s.heap.size)
  have hA : ∀ q : Nat, s.heap.size ≤ q → va_A (kw_W G K σ) s.heap.size q := fun q h => Or.inr h
  have hS : va_S (va_A (kw_W G K σ) s.heap.size) s.heap s.heap [] := va_S.rf
  have hl := lv_entry (As.map (kw_rv G.1)) (n := M.1.2.2.2.1) (by rw [kw_sl]; exact hn)
  rw [kw_args] at hl
  rw [lg_entry_eq]
  generalize (lg_sl (As.map (kw_rv G.1)) ++ List.replicate (M.1.2.2.2.1 - (lg_sl (As.map (kw_rv G.1))).length) Slot.unset).toArray = ls at hl ⊢
  refine h p e (kw_rm d) s m _ below meth c s.heap [] 0 0 _ ls G (va_A (kw_W G K σ) s.heap.size) ⟨hx, hb, hr, hlocks, hml, hfc, fun w hw => hts w (List.mem_cons_of_mem _ hw), hK, hA, hSt, htab⟩ ⟨hP, hD, hS, hl⟩ ⟨Nat.le_refl _, Nat.le_refl _, Nat.le_refl _, Nat.le_refl _⟩ ?_
  intro v σ' H' locs' ls' pc' ins hPv hP' hS' hdec hret
  have hq : ∀ t : State, t.heap = H' → s.WarmedH t.vm → kw_Q G K P (va_A (kw_W G K σ) s.heap.size) (As.map (kw_rv G.1)).toArray s (.returned (v.map (kw_rv G.1))) t := fun t ht _ => ⟨⟨v, σ', rfl, hPv, by rw [ht]; exact hP'⟩, hS'.F ht⟩
  rcases hret with ⟨rfl, h2, rfl⟩ | ⟨ty, x, rfl, h2, rfl, h4⟩ | ⟨x, rfl, h2, rfl⟩
  · exact W.vret hx hb (hr.trans h2) hq hS'.2.2 hdec
  · exact W.zret hx hb (hr.trans h2) h4 hq hS'.2.2 hdec
  · exact W.lret hx hb (hr.trans h2) hq hS'.2.2 hdec
end
section
section KWR
variable {l : Launch} {d : Nat} {E : kw_E} {K : List kw_K1} {M : kw_M} {P : Option Value → kw_S → Prop} {pc : Nat} {lv : List (Nat × Value)} {st : List Value} {σ : kw_S}
theorem kw_dec {G : kw_G} {A : Nat → Prop} {p : Program} {s : State} {m : MethodId} {args : Array Value} {meth : Method} {c : Code} (C : kw_Cx E M G A p s m args meth c) {i pc len : Nat} {ins : Instr} (h : M.2[i]? = some (pc, ins, len)) : decode M.1.2.2.1 pc = .ok (ins, len) := C.2.2.2.2.2.2.2.2.2.2 (pc, ins, len) (List.mem_of_getElem? h)
theorem kw_find {G : kw_G} {ls : Array Slot} {n k : Nat} {i : Nat} {v : Value} (h : lv_has ls n (lv.map (fun q => (q.1, kw_rv G.1 q.2)))) (hk : lv[k]? = some (i, v)) : ls[i]? = some (.val (kw_rv G.1 v)) :=
  lv_at h k (by rw [List.getElem?_map, hk]; rfl)
theorem kw_fil1 (ad : Nat → Nat) (i : Nat) : ∀ l : List (Nat × Value), (l.map (fun q => (q.1, kw_rv ad q.2))).filter (fun q => !(q.1 == i) && !(q.1 + 1 == i && q.2.category == 2)) = (l.filter (fun q => !(q.1 == i) && !(q.1 + 1 == i && q.2.category == 2))).map (fun q => (q.1, kw_rv ad q.2))
  | [] => rfl
  | q :: l => by
    rw [List.map_cons, List.filter_cons, List.filter_cons, kw_fil1 ad i l]
    simp only [kw_cat]
    split <;> rfl
theorem kw_fil2 (ad : Nat → Nat) (i : Nat) : ∀ l : List (Nat × Value), (l.map (fun q => (q.1, kw_rv ad q.2))).filter (fun q => !(q.1 == i) && (!(q.1 == i + 1) && !(q.1 + 1 == i && q.2.category == 2))) = (l.filter (fun q => !(q.1 == i) && (!(q.1 == i + 1) && !(q.1 + 1 == i && q.2.category == 2)))).map (fun q => (q.1, kw_rv ad q.2))
  | [] => rfl
  | q :: l => by
    rw [List.map_cons, List.filter_cons, List.filter_cons, kw_fil2 ad i l]
    simp only [kw_cat]
    split <;> rfl
theorem kw_rng (x : Int32) : -2147483648 ≤ x.toInt ∧ x.toInt < 2147483648 := ⟨Int32.le_toInt x, Int32.toInt_lt x⟩
theorem kw_rngL (x : Int64) : -9223372036854775808 ≤ x.toInt ∧ x.toInt < 9223372036854775808 := ⟨Int64.le_toInt x, Int64.toInt_lt x⟩
theorem kw_bm (z : Int) : z.bmod (2 ^ 32) = (z + 2147483648) % 4294967296 - 2147483648 := by
  simp only [Int.bmod]; split <;> omega
theorem kw_bmL (z : Int) : z.bmod (2 ^ 64) = (z + 9223372036854775808) % 18446744073709551616 - 9223372036854775808 := by
  simp only [Int.bmod]; split <;> omega
theorem kw_addI (x y : Int32) : (x + y).toInt = (x.toInt + y.toInt + 2147483648) % 4294967296 - 2147483648 := by rw [Int32.toInt_add, kw_bm]
theorem kw_subI (x y : Int32) : (x - y).toInt = (x.toInt - y.toInt + 2147483648) % 4294967296 - 2147483648 := by rw [Int32.toInt_sub, kw_bm]
theorem kw_mulI (x y : Int32) : (x * y).toInt = (x.toInt * y.toInt + 2147483648) % 4294967296 - 2147483648 := by rw [Int32.toInt_mul, kw_bm]
theorem kw_negI (x : Int32) : (-x).toInt = (-x.toInt + 2147483648) % 4294967296 - 2147483648 := by rw [Int32.toInt_neg, kw_bm]
theorem kw_addL (x y : Int64) : (x + y).toInt = (x.toInt + y.toInt + 9223372036854775808) % 18446744073709551616 - 9223372036854775808 := by rw [Int64.toInt_add, kw_bmL]
theorem kw_i2lI (x : Int32) : x.toInt64.toInt = x.toInt := by simp
theorem kw_in {x : Int32} {n : Nat} (h0 : 0 ≤ x.toInt) (h1 : x.toInt < n) : vp_in x n := vp_in_iff.mpr ⟨h0, h1⟩
theorem kw_clamp {x : Int32} {n : Nat} (h0 : 0 ≤ x.toInt) (h1 : x.toInt < n) : x.toNatClampNeg < n := by
  have e : x.toNatClampNeg = x.toInt.toNat := rfl
  rw [e]; omega
theorem kw_clampI {x : Int32} (h0 : 0 ≤ x.toInt) : ((x.toNatClampNeg : Nat) : Int) = x.toInt := by
  have e : x.toNatClampNeg = x.toInt.toNat := rfl
  rw [e]; omega
theorem kw_lcmpI (x y : Int64) : ((lg_cmp x y).toInt < 0 ↔ x.toInt < y.toInt) ∧ (0 < (lg_cmp x y).toInt ↔ y.toInt < x.toInt) ∧ ((lg_cmp x y).toInt = 0 ↔ x.toInt = y.toInt) := by
  have e1 : (1 : Int32).toInt = 1 := rfl
  have e0 : (0 : Int32).toInt = 0 := rfl
  have em : (-1 : Int32).toInt = -1 := rfl
  unfold lg_cmp
  by_cases h1 : y < x
  · have h : y.toInt < x.toInt := Int64.lt_iff_toInt_lt.mp h1
    simp only [h1, if_true]
    rw [e1]
    refine ⟨⟨fun q => ?_, fun q => ?_⟩, ⟨fun q => ?_, fun q => ?_⟩, ⟨fun q => ?_, fun q => ?_⟩⟩ <;> omega
  · have h : ¬ y.toInt < x.toInt := fun q => h1 (Int64.lt_iff_toInt_lt.mpr q)
    by_cases h2 : x = y
    · subst h2
      have h1' : ¬ x < x := h1
      simp only [h1', if_false, if_true, e0, Int.lt_irrefl, iff_self, and_self]
    · have h3 : x.toInt ≠ y.toInt := fun q => h2 (Int64.toInt_inj.mp q)
      simp only [h1, h2, if_false]
      rw [em]
      refine ⟨⟨fun q => ?_, fun q => ?_⟩, ⟨fun q => ?_, fun q => ?_⟩, ⟨fun q => ?_, fun q => ?_⟩⟩ <;> omega
end KWR
end
section
section KWR
variable {l : Launch} {d : Nat} {E : kw_E} {K : List kw_K1} {M : kw_M} {P : Option Value → kw_S → Prop} {pc : Nat} {lv : List (Nat × Value)} {st : List Value} {σ : kw_S}
theorem kw_iconst {i : Nat} {n : Int} {v : Int32} (hi : M.2[i]? = some (pc, .iconst n, 1)) (hv : Int32.ofInt n = v) (h : kw_AW l d E K M P (pc + 1) lv (.int v :: st) σ) : kw_AW l d E K M P pc lv (st) σ := by
  intro p e R s m args below meth c H locs cells slots Q ls G A Cx Sx Rx Fx
  exact lv_iconst Cx.1 Cx.2.1 (kw_dec Cx hi) hv (h p e R s m args below meth c H locs cells slots Q ls G A Cx Sx Rx Fx)
theorem kw_bipush {i : Nat} {n : Int} {v : Int32} (hi : M.2[i]? = some (pc, .bipush n, 2)) (hv : (Int8.ofInt n).toInt32 = v) (h : kw_AW l d E K M P (pc + 2) lv (.int v :: st) σ) : kw_AW l d E K M P pc lv (st) σ := by
  intro p e R s m args below meth c H locs cells slots Q ls G A Cx Sx Rx Fx
  exact lv_bipush Cx.1 Cx.2.1 (kw_dec Cx hi) hv (h p e R s m args below meth c H locs cells slots Q ls G A Cx Sx Rx Fx)
theorem kw_sipush {i : Nat} {n : Int} {v : Int32} (hi : M.2[i]? = some (pc, .sipush n, 3)) (hv : (Int16.ofInt n).toInt32 = v) (h : kw_AW l d E K M P (pc + 3) lv (.int v :: st) σ) : kw_AW l d E K M P pc lv (st) σ := by
  intro p e R s m args below meth c H locs cells slots Q ls G A Cx Sx Rx Fx
  exact lv_sipush Cx.1 Cx.2.1 (kw_dec Cx hi) hv (h p e R s m args below meth c H locs cells slots Q ls G A Cx Sx Rx Fx)
theorem kw_lconst {i : Nat} {n : Fin 2} {v : Int64} (hi : M.2[i]? = some (pc, .lconst n, 1)) (hv : Int64.ofNat (n : Nat) = v) (h : kw_AW l d E K M P (pc + 1) lv (.long v :: st) σ) : kw_AW l d E K M P pc lv (st) σ := by
  intro p e R s m args below meth c H locs cells slots Q ls G A Cx Sx Rx Fx
  exact lv_lconst Cx.1 Cx.2.1 (kw_dec Cx hi) hv (h p e R s m args below meth c H locs cells slots Q ls G A Cx Sx Rx Fx)
theorem kw_ldc {i : Nat} {v : Int32} {index : Nat} (hi : M.2[i]? = some (pc, .ldc index, 2)) (hc : Cond.constant M.1.1 index v ∈ kw_ws) (h : kw_AW l d E K M P (pc + 2) lv (.int v :: st) σ) : kw_AW l d E K M P pc lv (st) σ := by
  intro p e R s m args below meth c H locs cells slots Q ls G A Cx Sx Rx Fx
  exact lv_ldc Cx.1 Cx.2.1 Cx.2.2.2.2.2.1 (Cx.2.2.2.2.2.2.1 _ hc) (kw_dec Cx hi) (h p e R s m args below meth c H locs cells slots Q ls G A Cx Sx Rx Fx)
theorem kw_ldcw {i : Nat} {v : Int32} {index : Nat} (hi : M.2[i]? = some (pc, .ldc_w index, 3)) (hc : Cond.constant M.1.1 index v ∈ kw_ws) (h : kw_AW l d E K M P (pc + 3) lv (.int v :: st) σ) : kw_AW l d E K M P pc lv (st) σ := by
  intro p e R s m args below meth c H locs cells slots Q ls G A Cx Sx Rx Fx
  exact lv_ldcw Cx.1 Cx.2.1 Cx.2.2.2.2.2.1 (Cx.2.2.2.2.2.2.1 _ hc) (kw_dec Cx hi) (h p e R s m args below meth c H locs cells slots Q ls G A Cx Sx Rx Fx)
theorem kw_ldc2 {i : Nat} {v : Int64} {index : Nat} (hi : M.2[i]? = some (pc, .ldc2_w index, 3)) (hc : Cond.constantLong M.1.1 index v ∈ kw_ws) (h : kw_AW l d E K M P (pc + 3) lv (.long v :: st) σ) : kw_AW l d E K M P pc lv (st) σ := by
  intro p e R s m args below meth c H locs cells slots Q ls G A Cx Sx Rx Fx
  exact lv_ldc2 Cx.1 Cx.2.1 Cx.2.2.2.2.2.1 (Cx.2.2.2.2.2.2.1 _ hc) (kw_dec Cx hi) (h p e R s m args below meth c H locs cells slots Q ls G A Cx Sx Rx Fx)
theorem kw_iload_n {i : Nat} {j : Fin 4} {k n : Nat} {x : Int32} (hi : M.2[i]? = some (pc, .iload_n j, 1)) (hj : (j : Nat) = n) (hk : lv[k]? = some (n, .int x)) (h : kw_AW l d E K M P (pc + 1) lv (.int x :: st) σ) : kw_AW l d E K M P pc lv (st) σ := by
  intro p e R s m args below meth c H locs cells slots Q ls G A Cx Sx Rx Fx
  exact lv_iload_n Cx.1 Cx.2.1 (kw_dec Cx hi) hj (kw_find Sx.2.2.2 hk) (h p e R s m args below meth c H locs cells slots Q ls G A Cx Sx Rx Fx)
theorem kw_iload {i : Nat} {k n : Nat} {x : Int32} (hi : M.2[i]? = some (pc, .iload n, 2)) (hk : lv[k]? = some (n, .int x)) (h : kw_AW l d E K M P (pc + 2) lv (.int x :: st) σ) : kw_AW l d E K M P pc lv (st) σ := by
  intro p e R s m args below meth c H locs cells slots Q ls G A Cx Sx Rx Fx
  exact lv_iload Cx.1 Cx.2.1 (kw_dec Cx hi) (kw_find Sx.2.2.2 hk) (h p e R s m args below meth c H locs cells slots Q ls G A Cx Sx Rx Fx)
theorem kw_lload_n {i : Nat} {j : Fin 4} {k n : Nat} {x : Int64} (hi : M.2[i]? = some (pc, .lload_n j, 1)) (hj : (j : Nat) = n) (hk : lv[k]? = some (n, .long x)) (h : kw_AW l d E K M P (pc + 1) lv (.long x :: st) σ) : kw_AW l d E K M P pc lv (st) σ := by
  intro p e R s m args below meth c H locs cells slots Q ls G A Cx Sx Rx Fx
  exact lv_lload_n Cx.1 Cx.2.1 (kw_dec Cx hi) hj (kw_find Sx.2.2.2 hk) (h p e R s m args below meth c H locs cells slots Q ls G A Cx Sx Rx Fx)
theorem kw_lload {i : Nat} {k n : Nat} {x : Int64} (hi : M.2[i]? = some (pc, .lload n, 2)) (hk : lv[k]? = some (n, .long x)) (h : kw_AW l d E K M P (pc + 2) lv (.long x :: st) σ) : kw_AW l d E K M P pc lv (st) σ := by
  intro p e R s m args below meth c H locs cells slots Q ls G A Cx Sx Rx Fx
  exact lv_lload Cx.1 Cx.2.1 (kw_dec Cx hi) (kw_find Sx.2.2.2 hk) (h p e R s m args below meth c H locs cells slots Q ls G A Cx Sx Rx Fx)
theorem kw_aload_n {i : Nat} {j : Fin 4} {k n : Nat} {x : Nat} (hi : M.2[i]? = some (pc, .aload_n j, 1)) (hj : (j : Nat) = n) (hk : lv[k]? = some (n, .ref x)) (h : kw_AW l d E K M P (pc + 1) lv (.ref x :: st) σ) : kw_AW l d E K M P pc lv (st) σ := by
  intro p e R s m args below meth c H locs cells slots Q ls G A Cx Sx Rx Fx
  exact lv_aload_n Cx.1 Cx.2.1 (kw_dec Cx hi) hj (kw_find Sx.2.2.2 hk) (h p e R s m args below meth c H locs cells slots Q ls G A Cx Sx Rx Fx)
theorem kw_aload {i : Nat} {k n : Nat} {x : Nat} (hi : M.2[i]? = some (pc, .aload n, 2)) (hk : lv[k]? = some (n, .ref x)) (h : kw_AW l d E K M P (pc + 2) lv (.ref x :: st) σ) : kw_AW l d E K M P pc lv (st) σ := by
  intro p e R s m args below meth c H locs cells slots Q ls G A Cx Sx Rx Fx
  exact lv_aload Cx.1 Cx.2.1 (kw_dec Cx hi) (kw_find Sx.2.2.2 hk) (h p e R s m args below meth c H locs cells slots Q ls G A Cx Sx Rx Fx)
end KWR
end
section
section KWR
variable {l : Launch} {d : Nat} {E : kw_E} {K : List kw_K1} {M : kw_M} {P : Option Value → kw_S → Prop} {pc : Nat} {lv : List (Nat × Value)} {st : List Value} {σ : kw_S}
theorem kw_istore_n {i : Nat} {j : Fin 4} {n : Nat} {x : Int32} {lv' : List (Nat × Value)} (hi : M.2[i]? = some (pc, .istore_n j, 1)) (hj : (j : Nat) = n) (hn : n < M.1.2.2.2.1) (hl' : (n, Value.int x) :: lv.filter (fun q => !(q.1 == n) && !(q.1 + 1 == n && q.2.category == 2)) = lv') (h : kw_AW l d E K M P (pc + 1) lv' (st) σ) : kw_AW l d E K M P pc lv (.int x :: st) σ := by
  intro p e R s m args below meth c H locs cells slots Q ls G A Cx Sx Rx Fx
  refine lv_istore_n (lv' := lv'.map (fun q => (q.1, kw_rv G.1 q.2))) Cx.1 Cx.2.1 (kw_dec Cx hi) hj Sx.2.2.2 hn (by rw [kw_fil1 G.1 n lv, ← hl']; rfl) (fun ls2 hl => h p e R s m args below meth c H locs cells slots Q ls2 G A Cx ⟨Sx.1, Sx.2.1, Sx.2.2.1, hl⟩ Rx Fx)
theorem kw_istore {i : Nat} {n : Nat} {x : Int32} {lv' : List (Nat × Value)} (hi : M.2[i]? = some (pc, .istore n, 2)) (hn : n < M.1.2.2.2.1) (hl' : (n, Value.int x) :: lv.filter (fun q => !(q.1 == n) && !(q.1 + 1 == n && q.2.category == 2)) = lv') (h : kw_AW l d E K M P (pc + 2) lv' (st) σ) : kw_AW l d E K M P pc lv (.int x :: st) σ := by
  intro p e R s m args below meth c H locs cells slots Q ls G A Cx Sx Rx Fx
  refine lv_istore (lv' := lv'.map (fun q => (q.1, kw_rv G.1 q.2))) Cx.1 Cx.2.1 (kw_dec Cx hi) Sx.2.2.2 hn (by rw [kw_fil1 G.1 n lv, ← hl']; rfl) (fun ls2 hl => h p e R s m args below meth c H locs cells slots Q ls2 G A Cx ⟨Sx.1, Sx.2.1, Sx.2.2.1, hl⟩ Rx Fx)
theorem kw_lstore_n {i : Nat} {j : Fin 4} {n : Nat} {x : Int64} {lv' : List (Nat × Value)} (hi : M.2[i]? = some (pc, .lstore_n j, 1)) (hj : (j : Nat) = n) (hn : n + 1 < M.1.2.2.2.1) (hl' : (n, Value.long x) :: lv.filter (fun q => !(q.1 == n) && (!(q.1 == n + 1) && !(q.1 + 1 == n && q.2.category == 2))) = lv') (h : kw_AW l d E K M P (pc + 1) lv' (st) σ) : kw_AW l d E K M P pc lv (.long x :: st) σ := by
  intro p e R s m args below meth c H locs cells slots Q ls G A Cx Sx Rx Fx
  refine lv_lstore_n (lv' := lv'.map (fun q => (q.1, kw_rv G.1 q.2))) Cx.1 Cx.2.1 (kw_dec Cx hi) hj Sx.2.2.2 hn (by rw [kw_fil2 G.1 n lv, ← hl']; rfl) (fun ls2 hl => h p e R s m args below meth c H locs cells slots Q ls2 G A Cx ⟨Sx.1, Sx.2.1, Sx.2.2.1, hl⟩ Rx Fx)
theorem kw_lstore {i : Nat} {n : Nat} {x : Int64} {lv' : List (Nat × Value)} (hi : M.2[i]? = some (pc, .lstore n, 2)) (hn : n + 1 < M.1.2.2.2.1) (hl' : (n, Value.long x) :: lv.filter (fun q => !(q.1 == n) && (!(q.1 == n + 1) && !(q.1 + 1 == n && q.2.category == 2))) = lv') (h : kw_AW l d E K M P (pc + 2) lv' (st) σ) : kw_AW l d E K M P pc lv (.long x :: st) σ := by
  intro p e R s m args below meth c H locs cells slots Q ls G A Cx Sx Rx Fx
  refine lv_lstore (lv' := lv'.map (fun q => (q.1, kw_rv G.1 q.2))) Cx.1 Cx.2.1 (kw_dec Cx hi) Sx.2.2.2 hn (by rw [kw_fil2 G.1 n lv, ← hl']; rfl) (fun ls2 hl => h p e R s m args below meth c H locs cells slots Q ls2 G A Cx ⟨Sx.1, Sx.2.1, Sx.2.2.1, hl⟩ Rx Fx)
theorem kw_astore_n {i : Nat} {j : Fin 4} {n : Nat} {x : Nat} {lv' : List (Nat × Value)} (hi : M.2[i]? = some (pc, .astore_n j, 1)) (hj : (j : Nat) = n) (hn : n < M.1.2.2.2.1) (hl' : (n, Value.ref x) :: lv.filter (fun q => !(q.1 == n) && !(q.1 + 1 == n && q.2.category == 2)) = lv') (h : kw_AW l d E K M P (pc + 1) lv' (st) σ) : kw_AW l d E K M P pc lv (.ref x :: st) σ := by
  intro p e R s m args below meth c H locs cells slots Q ls G A Cx Sx Rx Fx
  refine lv_astore_n (lv' := lv'.map (fun q => (q.1, kw_rv G.1 q.2))) Cx.1 Cx.2.1 (kw_dec Cx hi) hj Sx.2.2.2 hn (by rw [kw_fil1 G.1 n lv, ← hl']; rfl) (fun ls2 hl => h p e R s m args below meth c H locs cells slots Q ls2 G A Cx ⟨Sx.1, Sx.2.1, Sx.2.2.1, hl⟩ Rx Fx)
theorem kw_astore {i : Nat} {n : Nat} {x : Nat} {lv' : List (Nat × Value)} (hi : M.2[i]? = some (pc, .astore n, 2)) (hn : n < M.1.2.2.2.1) (hl' : (n, Value.ref x) :: lv.filter (fun q => !(q.1 == n) && !(q.1 + 1 == n && q.2.category == 2)) = lv') (h : kw_AW l d E K M P (pc + 2) lv' (st) σ) : kw_AW l d E K M P pc lv (.ref x :: st) σ := by
  intro p e R s m args below meth c H locs cells slots Q ls G A Cx Sx Rx Fx
  refine lv_astore (lv' := lv'.map (fun q => (q.1, kw_rv G.1 q.2))) Cx.1 Cx.2.1 (kw_dec Cx hi) Sx.2.2.2 hn (by rw [kw_fil1 G.1 n lv, ← hl']; rfl) (fun ls2 hl => h p e R s m args below meth c H locs cells slots Q ls2 G A Cx ⟨Sx.1, Sx.2.1, Sx.2.2.1, hl⟩ Rx Fx)
theorem kw_iinc {i n k : Nat} {by_ : Int} {x : Int32} (hi : M.2[i]? = some (pc, .iinc n by_, 3)) (hk : lv[k]? = some (n, .int x)) (hn : n < M.1.2.2.2.1) (hb : (Int32.ofInt by_).toInt = by_) (h : ∀ z : Int32, z = x + Int32.ofInt by_ → z.toInt = (x.toInt + by_ + 2147483648) % 4294967296 - 2147483648 → kw_AW l d E K M P (pc + 3) ((n, .int z) :: lv.filter (fun q => !(q.1 == n) && !(q.1 + 1 == n && q.2.category == 2))) st σ) : kw_AW l d E K M P pc lv st σ := by
  intro p e R s m args below meth c H locs cells slots Q ls G A Cx Sx Rx Fx
  refine lv_iinc (k := k) (lv' := ((n, Value.int (x + Int32.ofInt by_)) :: lv.filter (fun q => !(q.1 == n) && !(q.1 + 1 == n && q.2.category == 2))).map (fun q => (q.1, kw_rv G.1 q.2))) Cx.1 Cx.2.1 (kw_dec Cx hi) Sx.2.2.2 (by rw [List.getElem?_map, hk]; rfl) rfl hn (by rw [kw_fil1 G.1 n lv]; rfl) (fun ls2 hl => h _ rfl (by rw [kw_addI, hb]) p e R s m args below meth c H locs cells slots Q ls2 G A Cx ⟨Sx.1, Sx.2.1, Sx.2.2.1, hl⟩ Rx Fx)
end KWR
end
section
section KWR
variable {l : Launch} {d : Nat} {E : kw_E} {K : List kw_K1} {M : kw_M} {P : Option Value → kw_S → Prop} {pc : Nat} {lv : List (Nat × Value)} {st : List Value} {σ : kw_S}
theorem kw_iadd {i : Nat} {x y : Int32} (hi : M.2[i]? = some (pc, .iadd, 1))  (h : ∀ z : Int32, z = x + y → z.toInt = (x.toInt + y.toInt + 2147483648) % 4294967296 - 2147483648 → kw_AW l d E K M P (pc + 1) lv (.int z :: st) σ) : kw_AW l d E K M P pc lv (.int y :: .int x :: st) σ := by
  intro p e R s m args below meth c H locs cells slots Q ls G A Cx Sx Rx Fx
  exact lv_iadd Cx.1 Cx.2.1 (kw_dec Cx hi) (h _ rfl (kw_addI x y) p e R s m args below meth c H locs cells slots Q ls G A Cx Sx Rx Fx)
theorem kw_isub {i : Nat} {x y : Int32} (hi : M.2[i]? = some (pc, .isub, 1))  (h : ∀ z : Int32, z = x - y → z.toInt = (x.toInt - y.toInt + 2147483648) % 4294967296 - 2147483648 → kw_AW l d E K M P (pc + 1) lv (.int z :: st) σ) : kw_AW l d E K M P pc lv (.int y :: .int x :: st) σ := by
  intro p e R s m args below meth c H locs cells slots Q ls G A Cx Sx Rx Fx
  exact lv_isub Cx.1 Cx.2.1 (kw_dec Cx hi) (h _ rfl (kw_subI x y) p e R s m args below meth c H locs cells slots Q ls G A Cx Sx Rx Fx)
theorem kw_imul {i : Nat} {x y : Int32} (hi : M.2[i]? = some (pc, .imul, 1))  (h : ∀ z : Int32, z = x * y → z.toInt = (x.toInt * y.toInt + 2147483648) % 4294967296 - 2147483648 → kw_AW l d E K M P (pc + 1) lv (.int z :: st) σ) : kw_AW l d E K M P pc lv (.int y :: .int x :: st) σ := by
  intro p e R s m args below meth c H locs cells slots Q ls G A Cx Sx Rx Fx
  exact lv_imul Cx.1 Cx.2.1 (kw_dec Cx hi) (h _ rfl (kw_mulI x y) p e R s m args below meth c H locs cells slots Q ls G A Cx Sx Rx Fx)
theorem kw_ineg {i : Nat} {x : Int32} (hi : M.2[i]? = some (pc, .ineg, 1))  (h : ∀ z : Int32, z = -x → z.toInt = (-x.toInt + 2147483648) % 4294967296 - 2147483648 → kw_AW l d E K M P (pc + 1) lv (.int z :: st) σ) : kw_AW l d E K M P pc lv (.int x :: st) σ := by
  intro p e R s m args below meth c H locs cells slots Q ls G A Cx Sx Rx Fx
  exact lv_ineg Cx.1 Cx.2.1 (kw_dec Cx hi) (h _ rfl (kw_negI x) p e R s m args below meth c H locs cells slots Q ls G A Cx Sx Rx Fx)
theorem kw_iand {i : Nat} {x y : Int32} (hi : M.2[i]? = some (pc, .iand, 1))  (h : ∀ z : Int32, z = x &&& y → kw_AW l d E K M P (pc + 1) lv (.int z :: st) σ) : kw_AW l d E K M P pc lv (.int y :: .int x :: st) σ := by
  intro p e R s m args below meth c H locs cells slots Q ls G A Cx Sx Rx Fx
  exact lv_iand Cx.1 Cx.2.1 (kw_dec Cx hi) (h _ rfl p e R s m args below meth c H locs cells slots Q ls G A Cx Sx Rx Fx)
theorem kw_ior {i : Nat} {x y : Int32} (hi : M.2[i]? = some (pc, .ior, 1))  (h : ∀ z : Int32, z = x ||| y → kw_AW l d E K M P (pc + 1) lv (.int z :: st) σ) : kw_AW l d E K M P pc lv (.int y :: .int x :: st) σ := by
  intro p e R s m args below meth c H locs cells slots Q ls G A Cx Sx Rx Fx
  exact lv_ior Cx.1 Cx.2.1 (kw_dec Cx hi) (h _ rfl p e R s m args below meth c H locs cells slots Q ls G A Cx Sx Rx Fx)
theorem kw_ixor {i : Nat} {x y : Int32} (hi : M.2[i]? = some (pc, .ixor, 1))  (h : ∀ z : Int32, z = x ^^^ y → kw_AW l d E K M P (pc + 1) lv (.int z :: st) σ) : kw_AW l d E K M P pc lv (.int y :: .int x :: st) σ := by
  intro p e R s m args below meth c H locs cells slots Q ls G A Cx Sx Rx Fx
  exact lv_ixor Cx.1 Cx.2.1 (kw_dec Cx hi) (h _ rfl p e R s m args below meth c H locs cells slots Q ls G A Cx Sx Rx Fx)
theorem kw_ishl {i : Nat} {x y : Int32} (hi : M.2[i]? = some (pc, .ishl, 1))  (h : ∀ z : Int32, z = x <<< (y &&& 31) → kw_AW l d E K M P (pc + 1) lv (.int z :: st) σ) : kw_AW l d E K M P pc lv (.int y :: .int x :: st) σ := by
  intro p e R s m args below meth c H locs cells slots Q ls G A Cx Sx Rx Fx
  exact lv_ishl Cx.1 Cx.2.1 (kw_dec Cx hi) (h _ rfl p e R s m args below meth c H locs cells slots Q ls G A Cx Sx Rx Fx)
theorem kw_ishr {i : Nat} {x y : Int32} (hi : M.2[i]? = some (pc, .ishr, 1))  (h : ∀ z : Int32, z = x >>> (y &&& 31) → kw_AW l d E K M P (pc + 1) lv (.int z :: st) σ) : kw_AW l d E K M P pc lv (.int y :: .int x :: st) σ := by
  intro p e R s m args below meth c H locs cells slots Q ls G A Cx Sx Rx Fx
  exact lv_ishr Cx.1 Cx.2.1 (kw_dec Cx hi) (h _ rfl p e R s m args below meth c H locs cells slots Q ls G A Cx Sx Rx Fx)
theorem kw_iushr {i : Nat} {x y : Int32} (hi : M.2[i]? = some (pc, .iushr, 1))  (h : ∀ z : Int32, z = (x.toUInt32 >>> (y.toUInt32 &&& Int32.toUInt32 31)).toInt32 → kw_AW l d E K M P (pc + 1) lv (.int z :: st) σ) : kw_AW l d E K M P pc lv (.int y :: .int x :: st) σ := by
  intro p e R s m args below meth c H locs cells slots Q ls G A Cx Sx Rx Fx
  exact lv_iushr Cx.1 Cx.2.1 (kw_dec Cx hi) rfl (h _ rfl p e R s m args below meth c H locs cells slots Q ls G A Cx Sx Rx Fx)
theorem kw_ne0 {y : Int32} (h : y.toInt ≠ 0) : ¬ y = 0 := fun q => h (by rw [q]; rfl)
theorem kw_ne0L {y : Int64} (h : y.toInt ≠ 0) : ¬ y = 0 := fun q => h (by rw [q]; rfl)
theorem kw_idiv {i : Nat} {x y : Int32} (hi : M.2[i]? = some (pc, .idiv, 1)) (hy : y.toInt ≠ 0) (h : ∀ z : Int32, z = x / y → kw_AW l d E K M P (pc + 1) lv (.int z :: st) σ) : kw_AW l d E K M P pc lv (.int y :: .int x :: st) σ := by
  intro p e R s m args below meth c H locs cells slots Q ls G A Cx Sx Rx Fx
  exact lv_idiv Cx.1 Cx.2.1 (kw_dec Cx hi) (kw_ne0 hy) (h _ rfl p e R s m args below meth c H locs cells slots Q ls G A Cx Sx Rx Fx)
theorem kw_irem {i : Nat} {x y : Int32} (hi : M.2[i]? = some (pc, .irem, 1)) (hy : y.toInt ≠ 0) (h : ∀ z : Int32, z = x - x / y * y → kw_AW l d E K M P (pc + 1) lv (.int z :: st) σ) : kw_AW l d E K M P pc lv (.int y :: .int x :: st) σ := by
  intro p e R s m args below meth c H locs cells slots Q ls G A Cx Sx Rx Fx
  exact lv_irem Cx.1 Cx.2.1 (kw_dec Cx hi) (kw_ne0 hy) (h _ rfl p e R s m args below meth c H locs cells slots Q ls G A Cx Sx Rx Fx)
theorem kw_ladd {i : Nat} {x y : Int64} (hi : M.2[i]? = some (pc, .ladd, 1))  (h : ∀ z : Int64, z = x + y → kw_AW l d E K M P (pc + 1) lv (.long z :: st) σ) : kw_AW l d E K M P pc lv (.long y :: .long x :: st) σ := by
  intro p e R s m args below meth c H locs cells slots Q ls G A Cx Sx Rx Fx
  exact lv_ladd Cx.1 Cx.2.1 (kw_dec Cx hi) (h _ rfl p e R s m args below meth c H locs cells slots Q ls G A Cx Sx Rx Fx)
theorem kw_lsub {i : Nat} {x y : Int64} (hi : M.2[i]? = some (pc, .lsub, 1))  (h : ∀ z : Int64, z = x - y → kw_AW l d E K M P (pc + 1) lv (.long z :: st) σ) : kw_AW l d E K M P pc lv (.long y :: .long x :: st) σ := by
  intro p e R s m args below meth c H locs cells slots Q ls G A Cx Sx Rx Fx
  exact lv_lsub Cx.1 Cx.2.1 (kw_dec Cx hi) (h _ rfl p e R s m args below meth c H locs cells slots Q ls G A Cx Sx Rx Fx)
theorem kw_lmul {i : Nat} {x y : Int64} (hi : M.2[i]? = some (pc, .lmul, 1))  (h : ∀ z : Int64, z = x * y → kw_AW l d E K M P (pc + 1) lv (.long z :: st) σ) : kw_AW l d E K M P pc lv (.long y :: .long x :: st) σ := by
  intro p e R s m args below meth c H locs cells slots Q ls G A Cx Sx Rx Fx
  exact lv_lmul Cx.1 Cx.2.1 (kw_dec Cx hi) (h _ rfl p e R s m args below meth c H locs cells slots Q ls G A Cx Sx Rx Fx)
theorem kw_lneg {i : Nat} {x : Int64} (hi : M.2[i]? = some (pc, .lneg, 1))  (h : ∀ z : Int64, z = -x → kw_AW l d E K M P (pc + 1) lv (.long z :: st) σ) : kw_AW l d E K M P pc lv (.long x :: st) σ := by
  intro p e R s m args below meth c H locs cells slots Q ls G A Cx Sx Rx Fx
  exact lv_lneg Cx.1 Cx.2.1 (kw_dec Cx hi) (h _ rfl p e R s m args below meth c H locs cells slots Q ls G A Cx Sx Rx Fx)
theorem kw_ldiv {i : Nat} {x y : Int64} (hi : M.2[i]? = some (pc, .ldiv, 1)) (hy : y.toInt ≠ 0) (h : ∀ z : Int64, z = x / y → kw_AW l d E K M P (pc + 1) lv (.long z :: st) σ) : kw_AW l d E K M P pc lv (.long y :: .long x :: st) σ := by
  intro p e R s m args below meth c H locs cells slots Q ls G A Cx Sx Rx Fx
  exact lv_ldiv Cx.1 Cx.2.1 (kw_dec Cx hi) (kw_ne0L hy) (h _ rfl p e R s m args below meth c H locs cells slots Q ls G A Cx Sx Rx Fx)
theorem kw_lrem {i : Nat} {x y : Int64} (hi : M.2[i]? = some (pc, .lrem, 1)) (hy : y.toInt ≠ 0) (h : ∀ z : Int64, z = x - x / y * y → kw_AW l d E K M P (pc + 1) lv (.long z :: st) σ) : kw_AW l d E K M P pc lv (.long y :: .long x :: st) σ := by
  intro p e R s m args below meth c H locs cells slots Q ls G A Cx Sx Rx Fx
  exact lv_lrem Cx.1 Cx.2.1 (kw_dec Cx hi) (kw_ne0L hy) (h _ rfl p e R s m args below meth c H locs cells slots Q ls G A Cx Sx Rx Fx)
theorem kw_lcmp {i : Nat} {x y : Int64} (hi : M.2[i]? = some (pc, .lcmp, 1))  (h : ∀ z : Int32, z = lg_cmp x y → (z.toInt < 0 ↔ x.toInt < y.toInt) ∧ (0 < z.toInt ↔ y.toInt < x.toInt) ∧ (z.toInt = 0 ↔ x.toInt = y.toInt) → kw_AW l d E K M P (pc + 1) lv (.int z :: st) σ) : kw_AW l d E K M P pc lv (.long y :: .long x :: st) σ := by
  intro p e R s m args below meth c H locs cells slots Q ls G A Cx Sx Rx Fx
  exact W.lcmp Cx.1 Cx.2.1 (kw_dec Cx hi) (h _ rfl (kw_lcmpI x y) p e R s m args below meth c H locs cells slots Q ls G A Cx Sx Rx Fx)
theorem kw_i2l {i : Nat} {x : Int32} (hi : M.2[i]? = some (pc, .i2l, 1))  (h : ∀ z : Int64, z = x.toInt64 → z.toInt = x.toInt → kw_AW l d E K M P (pc + 1) lv (.long z :: st) σ) : kw_AW l d E K M P pc lv (.int x :: st) σ := by
  intro p e R s m args below meth c H locs cells slots Q ls G A Cx Sx Rx Fx
  exact lv_i2l Cx.1 Cx.2.1 (kw_dec Cx hi) rfl (h _ rfl (kw_i2lI x) p e R s m args below meth c H locs cells slots Q ls G A Cx Sx Rx Fx)
theorem kw_l2i {i : Nat} {x : Int64} (hi : M.2[i]? = some (pc, .l2i, 1))  (h : ∀ z : Int32, z = x.toInt32 → kw_AW l d E K M P (pc + 1) lv (.int z :: st) σ) : kw_AW l d E K M P pc lv (.long x :: st) σ := by
  intro p e R s m args below meth c H locs cells slots Q ls G A Cx Sx Rx Fx
  exact lv_l2i Cx.1 Cx.2.1 (kw_dec Cx hi) rfl (h _ rfl p e R s m args below meth c H locs cells slots Q ls G A Cx Sx Rx Fx)
theorem kw_i2b {i : Nat} {x : Int32} (hi : M.2[i]? = some (pc, .i2b, 1))  (h : ∀ z : Int32, z = x.toInt8.toInt32 → kw_AW l d E K M P (pc + 1) lv (.int z :: st) σ) : kw_AW l d E K M P pc lv (.int x :: st) σ := by
  intro p e R s m args below meth c H locs cells slots Q ls G A Cx Sx Rx Fx
  exact lv_i2b Cx.1 Cx.2.1 (kw_dec Cx hi) rfl (h _ rfl p e R s m args below meth c H locs cells slots Q ls G A Cx Sx Rx Fx)
theorem kw_dup {i : Nat} {v : Value} (hi : M.2[i]? = some (pc, .dup, 1)) (hv : v.category = 1) (h : kw_AW l d E K M P (pc + 1) lv (v :: v :: st) σ) : kw_AW l d E K M P pc lv (v :: st) σ := by
  intro p e R s m args below meth c H locs cells slots Q ls G A Cx Sx Rx Fx
  exact lv_dup Cx.1 Cx.2.1 (kw_dec Cx hi) (by rw [kw_cat]; exact hv) (h p e R s m args below meth c H locs cells slots Q ls G A Cx Sx Rx Fx)
theorem kw_pop {i : Nat} {v : Value} (hi : M.2[i]? = some (pc, .pop, 1)) (hv : v.category = 1) (h : kw_AW l d E K M P (pc + 1) lv (st) σ) : kw_AW l d E K M P pc lv (v :: st) σ := by
  intro p e R s m args below meth c H locs cells slots Q ls G A Cx Sx Rx Fx
  exact lv_pop Cx.1 Cx.2.1 (kw_dec Cx hi) (by rw [kw_cat]; exact hv) (h p e R s m args below meth c H locs cells slots Q ls G A Cx Sx Rx Fx)
theorem kw_pop2 {i : Nat} {v : Value} (hi : M.2[i]? = some (pc, .pop2, 1)) (hv : v.category = 2) (h : kw_AW l d E K M P (pc + 1) lv (st) σ) : kw_AW l d E K M P pc lv (v :: st) σ := by
  intro p e R s m args below meth c H locs cells slots Q ls G A Cx Sx Rx Fx
  exact lv_pop2_2 Cx.1 Cx.2.1 (kw_dec Cx hi) (by rw [kw_cat]; exact hv) (h p e R s m args below meth c H locs cells slots Q ls G A Cx Sx Rx Fx)
theorem kw_dup2 {i : Nat} {v w : Value} (hi : M.2[i]? = some (pc, .dup2, 1)) (hv : v.category = 1) (hw : w.category = 1) (h : kw_AW l d E K M P (pc + 1) lv (v :: w :: v :: w :: st) σ) : kw_AW l d E K M P pc lv (v :: w :: st) σ := by
  intro p e R s m args below meth c H locs cells slots Q ls G A Cx Sx Rx Fx
  exact lv_dup2_11 Cx.1 Cx.2.1 (kw_dec Cx hi) (by rw [kw_cat]; exact hv) (by rw [kw_cat]; exact hw) (h p e R s m args below meth c H locs cells slots Q ls G A Cx Sx Rx Fx)
end KWR
end
section
section KWR
variable {l : Launch} {d : Nat} {E : kw_E} {K : List kw_K1} {M : kw_M} {P : Option Value → kw_S → Prop} {pc : Nat} {lv : List (Nat × Value)} {st : List Value} {σ : kw_S}
theorem kw_eqI {x y : Int32} (h : x = y) : x.toInt = y.toInt := by rw [h]
theorem kw_neI {x y : Int32} (h : ¬ x = y) : x.toInt ≠ y.toInt := fun q => h (Int32.toInt_inj.mp q)
theorem kw_ltI {x y : Int32} (h : x < y) : x.toInt < y.toInt := Int32.lt_iff_toInt_lt.mp h
theorem kw_leI {x y : Int32} (h : x ≤ y) : x.toInt ≤ y.toInt := Int32.le_iff_toInt_le.mp h
theorem kw_nltI {x y : Int32} (h : ¬ x < y) : y.toInt ≤ x.toInt := Int.not_lt.mp fun q => h (Int32.lt_iff_toInt_lt.mpr q)
theorem kw_nleI {x y : Int32} (h : ¬ x ≤ y) : y.toInt < x.toInt := Int.not_le.mp fun q => h (Int32.le_iff_toInt_le.mpr q)
theorem kw_if_eq {i : Nat} {x : Int32} {off : Int} {tgt : Nat} (hi : M.2[i]? = some (pc, .ifCond .eq off, 3)) (ht : (pc : Int) + off = (tgt : Int)) (kt : x.toInt = 0 → kw_AW l d E K M P tgt lv st σ) (kf : x.toInt ≠ 0 → kw_AW l d E K M P (pc + 3) lv st σ) : kw_AW l d E K M P pc lv (.int x :: st) σ := by
  intro p e R s m args below meth c H locs cells slots Q ls G A Cx Sx Rx Fx
  exact lv_if_eq Cx.1 Cx.2.1 (kw_dec Cx hi) ht (fun q => kt (kw_eqI q) p e R s m args below meth c H locs cells slots Q ls G A Cx Sx Rx Fx) (fun q => kf (kw_neI q) p e R s m args below meth c H locs cells slots Q ls G A Cx Sx Rx Fx)
theorem kw_icmp_eq {i : Nat} {x y : Int32} {off : Int} {tgt : Nat} (hi : M.2[i]? = some (pc, .if_icmp .eq off, 3)) (ht : (pc : Int) + off = (tgt : Int)) (kt : x.toInt = y.toInt → kw_AW l d E K M P tgt lv st σ) (kf : x.toInt ≠ y.toInt → kw_AW l d E K M P (pc + 3) lv st σ) : kw_AW l d E K M P pc lv (.int y :: .int x :: st) σ := by
  intro p e R s m args below meth c H locs cells slots Q ls G A Cx Sx Rx Fx
  exact lv_icmp_eq Cx.1 Cx.2.1 (kw_dec Cx hi) ht (fun q => kt (kw_eqI q) p e R s m args below meth c H locs cells slots Q ls G A Cx Sx Rx Fx) (fun q => kf (kw_neI q) p e R s m args below meth c H locs cells slots Q ls G A Cx Sx Rx Fx)
theorem kw_if_ne {i : Nat} {x : Int32} {off : Int} {tgt : Nat} (hi : M.2[i]? = some (pc, .ifCond .ne off, 3)) (ht : (pc : Int) + off = (tgt : Int)) (kt : x.toInt ≠ 0 → kw_AW l d E K M P tgt lv st σ) (kf : x.toInt = 0 → kw_AW l d E K M P (pc + 3) lv st σ) : kw_AW l d E K M P pc lv (.int x :: st) σ := by
  intro p e R s m args below meth c H locs cells slots Q ls G A Cx Sx Rx Fx
  exact lv_if_ne Cx.1 Cx.2.1 (kw_dec Cx hi) ht (fun q => kt (kw_neI q) p e R s m args below meth c H locs cells slots Q ls G A Cx Sx Rx Fx) (fun q => kf (kw_eqI q) p e R s m args below meth c H locs cells slots Q ls G A Cx Sx Rx Fx)
theorem kw_icmp_ne {i : Nat} {x y : Int32} {off : Int} {tgt : Nat} (hi : M.2[i]? = some (pc, .if_icmp .ne off, 3)) (ht : (pc : Int) + off = (tgt : Int)) (kt : x.toInt ≠ y.toInt → kw_AW l d E K M P tgt lv st σ) (kf : x.toInt = y.toInt → kw_AW l d E K M P (pc + 3) lv st σ) : kw_AW l d E K M P pc lv (.int y :: .int x :: st) σ := by
  intro p e R s m args below meth c H locs cells slots Q ls G A Cx Sx Rx Fx
  exact lv_icmp_ne Cx.1 Cx.2.1 (kw_dec Cx hi) ht (fun q => kt (kw_neI q) p e R s m args below meth c H locs cells slots Q ls G A Cx Sx Rx Fx) (fun q => kf (kw_eqI q) p e R s m args below meth c H locs cells slots Q ls G A Cx Sx Rx Fx)
theorem kw_if_lt {i : Nat} {x : Int32} {off : Int} {tgt : Nat} (hi : M.2[i]? = some (pc, .ifCond .lt off, 3)) (ht : (pc : Int) + off = (tgt : Int)) (kt : x.toInt < 0 → kw_AW l d E K M P tgt lv st σ) (kf : 0 ≤ x.toInt → kw_AW l d E K M P (pc + 3) lv st σ) : kw_AW l d E K M P pc lv (.int x :: st) σ := by
  intro p e R s m args below meth c H locs cells slots Q ls G A Cx Sx Rx Fx
  exact lv_if_lt Cx.1 Cx.2.1 (kw_dec Cx hi) ht (fun q => kt (kw_ltI q) p e R s m args below meth c H locs cells slots Q ls G A Cx Sx Rx Fx) (fun q => kf (kw_nltI q) p e R s m args below meth c H locs cells slots Q ls G A Cx Sx Rx Fx)
theorem kw_icmp_lt {i : Nat} {x y : Int32} {off : Int} {tgt : Nat} (hi : M.2[i]? = some (pc, .if_icmp .lt off, 3)) (ht : (pc : Int) + off = (tgt : Int)) (kt : x.toInt < y.toInt → kw_AW l d E K M P tgt lv st σ) (kf : y.toInt ≤ x.toInt → kw_AW l d E K M P (pc + 3) lv st σ) : kw_AW l d E K M P pc lv (.int y :: .int x :: st) σ := by
  intro p e R s m args below meth c H locs cells slots Q ls G A Cx Sx Rx Fx
  exact lv_icmp_lt Cx.1 Cx.2.1 (kw_dec Cx hi) ht (fun q => kt (kw_ltI q) p e R s m args below meth c H locs cells slots Q ls G A Cx Sx Rx Fx) (fun q => kf (kw_nltI q) p e R s m args below meth c H locs cells slots Q ls G A Cx Sx Rx Fx)
theorem kw_if_ge {i : Nat} {x : Int32} {off : Int} {tgt : Nat} (hi : M.2[i]? = some (pc, .ifCond .ge off, 3)) (ht : (pc : Int) + off = (tgt : Int)) (kt : 0 ≤ x.toInt → kw_AW l d E K M P tgt lv st σ) (kf : x.toInt < 0 → kw_AW l d E K M P (pc + 3) lv st σ) : kw_AW l d E K M P pc lv (.int x :: st) σ := by
  intro p e R s m args below meth c H locs cells slots Q ls G A Cx Sx Rx Fx
  exact lv_if_ge Cx.1 Cx.2.1 (kw_dec Cx hi) ht (fun q => kt (kw_leI q) p e R s m args below meth c H locs cells slots Q ls G A Cx Sx Rx Fx) (fun q => kf (kw_nleI q) p e R s m args below meth c H locs cells slots Q ls G A Cx Sx Rx Fx)
theorem kw_icmp_ge {i : Nat} {x y : Int32} {off : Int} {tgt : Nat} (hi : M.2[i]? = some (pc, .if_icmp .ge off, 3)) (ht : (pc : Int) + off = (tgt : Int)) (kt : y.toInt ≤ x.toInt → kw_AW l d E K M P tgt lv st σ) (kf : x.toInt < y.toInt → kw_AW l d E K M P (pc + 3) lv st σ) : kw_AW l d E K M P pc lv (.int y :: .int x :: st) σ := by
  intro p e R s m args below meth c H locs cells slots Q ls G A Cx Sx Rx Fx
  exact lv_icmp_ge Cx.1 Cx.2.1 (kw_dec Cx hi) ht (fun q => kt (kw_leI q) p e R s m args below meth c H locs cells slots Q ls G A Cx Sx Rx Fx) (fun q => kf (kw_nleI q) p e R s m args below meth c H locs cells slots Q ls G A Cx Sx Rx Fx)
theorem kw_if_gt {i : Nat} {x : Int32} {off : Int} {tgt : Nat} (hi : M.2[i]? = some (pc, .ifCond .gt off, 3)) (ht : (pc : Int) + off = (tgt : Int)) (kt : 0 < x.toInt → kw_AW l d E K M P tgt lv st σ) (kf : x.toInt ≤ 0 → kw_AW l d E K M P (pc + 3) lv st σ) : kw_AW l d E K M P pc lv (.int x :: st) σ := by
  intro p e R s m args below meth c H locs cells slots Q ls G A Cx Sx Rx Fx
  exact lv_if_gt Cx.1 Cx.2.1 (kw_dec Cx hi) ht (fun q => kt (kw_ltI q) p e R s m args below meth c H locs cells slots Q ls G A Cx Sx Rx Fx) (fun q => kf (kw_nltI q) p e R s m args below meth c H locs cells slots Q ls G A Cx Sx Rx Fx)
theorem kw_icmp_gt {i : Nat} {x y : Int32} {off : Int} {tgt : Nat} (hi : M.2[i]? = some (pc, .if_icmp .gt off, 3)) (ht : (pc : Int) + off = (tgt : Int)) (kt : y.toInt < x.toInt → kw_AW l d E K M P tgt lv st σ) (kf : x.toInt ≤ y.toInt → kw_AW l d E K M P (pc + 3) lv st σ) : kw_AW l d E K M P pc lv (.int y :: .int x :: st) σ := by
  intro p e R s m args below meth c H locs cells slots Q ls G A Cx Sx Rx Fx
  exact lv_icmp_gt Cx.1 Cx.2.1 (kw_dec Cx hi) ht (fun q => kt (kw_ltI q) p e R s m args below meth c H locs cells slots Q ls G A Cx Sx Rx Fx) (fun q => kf (kw_nltI q) p e R s m args below meth c H locs cells slots Q ls G A Cx Sx Rx Fx)
theorem kw_if_le {i : Nat} {x : Int32} {off : Int} {tgt : Nat} (hi : M.2[i]? = some (pc, .ifCond .le off, 3)) (ht : (pc : Int) + off = (tgt : Int)) (kt : x.toInt ≤ 0 → kw_AW l d E K M P tgt lv st σ) (kf : 0 < x.toInt → kw_AW l d E K M P (pc + 3) lv st σ) : kw_AW l d E K M P pc lv (.int x :: st) σ := by
  intro p e R s m args below meth c H locs cells slots Q ls G A Cx Sx Rx Fx
  exact lv_if_le Cx.1 Cx.2.1 (kw_dec Cx hi) ht (fun q => kt (kw_leI q) p e R s m args below meth c H locs cells slots Q ls G A Cx Sx Rx Fx) (fun q => kf (kw_nleI q) p e R s m args below meth c H locs cells slots Q ls G A Cx Sx Rx Fx)
theorem kw_icmp_le {i : Nat} {x y : Int32} {off : Int} {tgt : Nat} (hi : M.2[i]? = some (pc, .if_icmp .le off, 3)) (ht : (pc : Int) + off = (tgt : Int)) (kt : x.toInt ≤ y.toInt → kw_AW l d E K M P tgt lv st σ) (kf : y.toInt < x.toInt → kw_AW l d E K M P (pc + 3) lv st σ) : kw_AW l d E K M P pc lv (.int y :: .int x :: st) σ := by
  intro p e R s m args below meth c H locs cells slots Q ls G A Cx Sx Rx Fx
  exact lv_icmp_le Cx.1 Cx.2.1 (kw_dec Cx hi) ht (fun q => kt (kw_leI q) p e R s m args below meth c H locs cells slots Q ls G A Cx Sx Rx Fx) (fun q => kf (kw_nleI q) p e R s m args below meth c H locs cells slots Q ls G A Cx Sx Rx Fx)
theorem kw_goto {i : Nat} {off : Int} {tgt : Nat} (hi : M.2[i]? = some (pc, .goto off, 3)) (ht : (pc : Int) + off = (tgt : Int)) (h : kw_AW l d E K M P tgt lv st σ) : kw_AW l d E K M P pc lv st σ := by
  intro p e R s m args below meth c H locs cells slots Q ls G A Cx Sx Rx Fx
  exact lv_goto Cx.1 Cx.2.1 (kw_dec Cx hi) ht (h p e R s m args below meth c H locs cells slots Q ls G A Cx Sx Rx Fx)
theorem kw_tableOut {i : Nat} {dflt lo hi_ : Int} {offs : Array Int} {len : Nat} {x : Int32} {tgt : Nat} (hi : M.2[i]? = some (pc, .tableswitch dflt lo hi_ offs, len)) (hx : x.toInt < lo ∨ hi_ < x.toInt) (ht : (pc : Int) + dflt = (tgt : Int)) (h : kw_AW l d E K M P tgt lv st σ) : kw_AW l d E K M P pc lv (.int x :: st) σ := by
  intro p e R s m args below meth c H locs cells slots Q ls G A Cx Sx Rx Fx
  exact lv_tableOut Cx.1 Cx.2.1 (kw_dec Cx hi) hx ht (h p e R s m args below meth c H locs cells slots Q ls G A Cx Sx Rx Fx)
theorem kw_tableIn {i : Nat} {dflt lo hi_ : Int} {offs : Array Int} {len : Nat} {x : Int32} {off : Int} {tgt : Nat} {k : Nat} (hi : M.2[i]? = some (pc, .tableswitch dflt lo hi_ offs, len)) (hx : x.toInt = lo + k) (hk : lo + (k : Int) ≤ hi_) (ho : offs[k]? = some off) (ht : (pc : Int) + off = (tgt : Int)) (h : kw_AW l d E K M P tgt lv st σ) : kw_AW l d E K M P pc lv (.int x :: st) σ := by
  intro p e R s m args below meth c H locs cells slots Q ls G A Cx Sx Rx Fx
  refine lv_tableIn Cx.1 Cx.2.1 (kw_dec Cx hi) (by omega) (by omega) (off := off) ?_ ht (h p e R s m args below meth c H locs cells slots Q ls G A Cx Sx Rx Fx)
  rw [show (x.toInt - lo).toNat = k by omega]
  exact ho
theorem kw_ireturn {i : Nat} {x : Int32} {ty : FieldType} (hi : M.2[i]? = some (pc, .ireturn, 1)) (hr : M.1.2.2.2.2 = some ty) (hn : narrow ty (.int x) = .int x) (hP : P (some (.int x)) σ) : kw_AW l d E K M P pc lv [.int x] σ := by
  intro p e R s m args below meth c H locs cells slots Q ls G A Cx Sx Rx Fx
  exact Fx (some (.int x)) σ H locs ls pc _ hP Sx.1 Sx.2.2.1 (kw_dec Cx hi) (Or.inr (Or.inl ⟨ty, x, rfl, hr, rfl, hn⟩))
theorem kw_lreturn {i : Nat} {x : Int64} (hi : M.2[i]? = some (pc, .lreturn, 1)) (hr : M.1.2.2.2.2 = some .long) (hP : P (some (.long x)) σ) : kw_AW l d E K M P pc lv [.long x] σ := by
  intro p e R s m args below meth c H locs cells slots Q ls G A Cx Sx Rx Fx
  exact Fx (some (.long x)) σ H locs ls pc _ hP Sx.1 Sx.2.2.1 (kw_dec Cx hi) (Or.inr (Or.inr ⟨x, rfl, hr, rfl⟩))
theorem kw_return {i : Nat} (hi : M.2[i]? = some (pc, .return_, 1)) (hr : M.1.2.2.2.2 = none) (hP : P none σ) : kw_AW l d E K M P pc lv [] σ := by
  intro p e R s m args below meth c H locs cells slots Q ls G A Cx Sx Rx Fx
  exact Fx none σ H locs ls pc _ hP Sx.1 Sx.2.2.1 (kw_dec Cx hi) (Or.inl ⟨rfl, hr, rfl⟩)
end KWR
end
section
section KWR
variable {l : Launch} {d : Nat} {E : kw_E} {K : List kw_K1} {M : kw_M} {P : Option Value → kw_S → Prop} {pc : Nat} {lv : List (Nat × Value)} {st : List Value} {σ : kw_S}
/-- a field's link: the class ci's field j, as the class own names it at idx -/
def kw_lk (own : String) (idx ci j : Nat) : Prop := ∃ (C : String) (T : u_T) (N : Nat), vwCl[ci]? = some (C, T, N) ∧ j < N ∧ (∀ w ∈ u_ws C T N, w ∈ kw_ws) ∧ (T j).1 = C ∧ Cond.fieldLink own idx C (T j).2.1 (T j).2.2.1 ∈ kw_ws
/-- and it may be written -/
def kw_lkP (own : String) (idx ci j : Nat) (ty : FieldType) : Prop := ∃ (C : String) (T : u_T) (N : Nat) (ty0 : Nat → FieldType), vwCl[ci]? = some (C, T, N) ∧ j < N ∧ (∀ w ∈ u_ws C T N, w ∈ kw_ws) ∧ (T j).1 = C ∧ Cond.fieldLink own idx C (T j).2.1 (T j).2.2.1 ∈ kw_ws ∧ (∀ k, k < N → parseFieldDescriptor (T k).2.2.1 = some (ty0 k)) ∧ (∀ a, a < N → ∀ b, b < N → a ≠ b → (T a).2.1 ≠ (T b).2.1) ∧ (T j).2.2.2 = false ∧ parseFieldDescriptor (T j).2.2.1 = some ty
theorem kw_get {i idx a ci j : Nat} {fs : List Value} {t : Value} (hi : M.2[i]? = some (pc, .getfield idx, 3)) (hk : K[a]? = some (.inr (ci, fs))) (hf : fs[j]? = some t) (hl : kw_lk M.1.1 idx ci j) {v : Value} (hv : ∀ ad : Nat → Nat, kw_fv ad σ a j t = kw_rv ad v) (h : kw_AW l d E K M P (pc + 3) lv (v :: st) σ) : kw_AW l d E K M P pc lv (.ref a :: st) σ := by
  intro p e R s m args below meth c H locs cells slots Q ls G A Cx Sx Rx Fx
  obtain ⟨C, T, N, h1, h2, h3, h4, h5⟩ := hl
  refine va_get (D := G.2.1) (C := C) (T := T) (N := N) (v := kw_rv G.1 v) Cx.1 Cx.2.1 Cx.2.2.2.2.2.2.1 h3 Cx.2.2.2.2.2.1 Cx.2.2.2.2.2.2.2.1 Sx.1 a (kw_W_at hk) h1 j h2 (Cx.2.2.2.2.2.2.1 _ h5) (fun _ h9 => by rw [h4] at h9; exact h9) (by rw [kw_fill_get, hf, ← hv G.1]; rfl) (kw_dec Cx hi) (h p e R s m args below meth c H locs cells slots Q ls G A Cx Sx Rx Fx)
theorem kw_puti {i idx a ci j : Nat} {fs : List Value} {z x : Int32} {ty : FieldType} (hi : M.2[i]? = some (pc, .putfield idx, 3)) (hk : K[a]? = some (.inr (ci, fs))) (hf : fs[j]? = some (.int z)) (hl : kw_lkP M.1.1 idx ci j ty) (hn : narrow ty (.int x) = .int x) (hfit : fits ty (.int x) = true) (h : kw_AW l d E K M P (pc + 3) lv st (kw_ui σ a j x)) : kw_AW l d E K M P pc lv (.int x :: .ref a :: st) σ := by
  intro p e R s m args below meth c H locs cells slots Q ls G A Cx Sx Rx Fx
  obtain ⟨C, T, N, ty0, h1, h2, h3, h4, h5, h6, h7, h8, h9⟩ := hl
  refine va_put (D := G.2.1) (C := C) (T := T) (N := N) (v := .int x) (ty := ty) Cx.1 Cx.2.1 Cx.2.2.2.2.2.2.1 h3 ty0 h6 h7 Cx.2.2.2.2.2.1 Cx.2.2.2.2.2.2.2.1 Sx.1 Sx.2.1 Sx.2.2.1 a (kw_W_at hk) h1 j h2 (Cx.2.2.2.2.2.2.1 _ h5) (fun _ h9 => by rw [h4] at h9; exact h9) h8 h9 hn hfit (by have := (List.getElem?_eq_some_iff.mp hf).1; simp [kw_fill, this]) (kw_dec Cx hi) (fun H1 locs1 hP hD hS => ?_)
  rw [kw_W_pi hk hf] at hP hD
  exact h p e R s m args below meth c H1 locs1 cells slots Q ls G A Cx ⟨hP, hD, hS, Sx.2.2.2⟩ Rx Fx
theorem kw_putl {i idx a ci j : Nat} {fs : List Value} {z x : Int64} (hi : M.2[i]? = some (pc, .putfield idx, 3)) (hk : K[a]? = some (.inr (ci, fs))) (hf : fs[j]? = some (.long z)) (hl : kw_lkP M.1.1 idx ci j .long) (h : kw_AW l d E K M P (pc + 3) lv st (kw_ul σ a j x)) : kw_AW l d E K M P pc lv (.long x :: .ref a :: st) σ := by
  intro p e R s m args below meth c H locs cells slots Q ls G A Cx Sx Rx Fx
  obtain ⟨C, T, N, ty0, h1, h2, h3, h4, h5, h6, h7, h8, h9⟩ := hl
  refine va_put (D := G.2.1) (C := C) (T := T) (N := N) (v := .long x) (ty := .long) Cx.1 Cx.2.1 Cx.2.2.2.2.2.2.1 h3 ty0 h6 h7 Cx.2.2.2.2.2.1 Cx.2.2.2.2.2.2.2.1 Sx.1 Sx.2.1 Sx.2.2.1 a (kw_W_at hk) h1 j h2 (Cx.2.2.2.2.2.2.1 _ h5) (fun _ h9 => by rw [h4] at h9; exact h9) h8 h9 rfl rfl (by have := (List.getElem?_eq_some_iff.mp hf).1; simp [kw_fill, this]) (kw_dec Cx hi) (fun H1 locs1 hP hD hS => ?_)
  rw [kw_W_pl hk hf] at hP hD
  exact h p e R s m args below meth c H1 locs1 cells slots Q ls G A Cx ⟨hP, hD, hS, Sx.2.2.2⟩ Rx Fx
theorem kw_iald {i a n : Nat} {x : Int32} (hi : M.2[i]? = some (pc, .iaload, 1)) (hk : K[a]? = some (.inl (.inl n))) (h0 : 0 ≤ x.toInt) (h1 : x.toInt < n) (h : ∀ v : Int32, v = σ.1 a x.toNatClampNeg → kw_AW l d E K M P (pc + 1) lv (.int v :: st) σ) : kw_AW l d E K M P pc lv (.int x :: .ref a :: st) σ := by
  intro p e R s m args below meth c H locs cells slots Q ls G A Cx Sx Rx Fx
  exact va_iald (D := G.2.1) (n := n) (f := σ.1 a) Cx.1 Cx.2.1 Cx.2.2.2.2.2.2.2.1 Sx.1 a 0 (kw_W_at hk) rfl (kw_in h0 h1) (kw_dec Cx hi) (h _ rfl p e R s m args below meth c H locs cells slots Q ls G A Cx Sx Rx Fx)
theorem kw_iast {i a n : Nat} {x y : Int32} (hi : M.2[i]? = some (pc, .iastore, 1)) (hk : K[a]? = some (.inl (.inl n))) (h0 : 0 ≤ x.toInt) (h1 : x.toInt < n) (h : kw_AW l d E K M P (pc + 1) lv st (kw_ui σ a x.toNatClampNeg y)) : kw_AW l d E K M P pc lv (.int y :: .int x :: .ref a :: st) σ := by
  intro p e R s m args below meth c H locs cells slots Q ls G A Cx Sx Rx Fx
  refine va_iast (D := G.2.1) (n := n) (f := σ.1 a) Cx.1 Cx.2.1 Cx.2.2.2.2.2.2.2.1 Sx.1 Sx.2.1 Sx.2.2.1 a 0 (kw_W_at hk) rfl (kw_in h0 h1) (kw_dec Cx hi) (fun H1 locs1 hP hD hS => ?_)
  rw [kw_W_ui hk] at hP hD
  exact h p e R s m args below meth c H1 locs1 cells slots Q ls G A Cx ⟨hP, hD, hS, Sx.2.2.2⟩ Rx Fx
theorem kw_alen {i a n : Nat} {v : Int32} (hi : M.2[i]? = some (pc, .arraylength, 1)) (hk : K[a]? = some (.inl (.inl n))) (hv : Int32.ofNat n = v) (h : kw_AW l d E K M P (pc + 1) lv (.int v :: st) σ) : kw_AW l d E K M P pc lv (.ref a :: st) σ := by
  intro p e R s m args below meth c H locs cells slots Q ls G A Cx Sx Rx Fx
  exact va_alen (D := G.2.1) Cx.1 Cx.2.1 Cx.2.2.2.2.2.2.2.1 Sx.1 a 0 (x := (n, .inl (σ.1 a))) (kw_W_at hk) rfl hv (kw_dec Cx hi) (h p e R s m args below meth c H locs cells slots Q ls G A Cx Sx Rx Fx)
theorem kw_aald {i a t : Nat} {rs : List Nat} {x : Int32} {b : Nat} (hi : M.2[i]? = some (pc, .aaload, 1)) (hk : K[a]? = some (.inl (.inr (t, rs)))) (ht : t = 1 ∨ t = 2) (h0 : 0 ≤ x.toInt) (hb : rs[x.toNatClampNeg]? = some b) (h : kw_AW l d E K M P (pc + 1) lv (.ref b :: st) σ) : kw_AW l d E K M P pc lv (.int x :: .ref a :: st) σ := by
  intro p e R s m args below meth c H locs cells slots Q ls G A Cx Sx Rx Fx
  have hlt : x.toNatClampNeg < rs.length := (List.getElem?_eq_some_iff.mp hb).1
  have hin : vp_in x rs.length := kw_in h0 (by have := kw_clampI h0; omega)
  have ee : va_rf ((fun j => (rs[j]?).map G.1) x.toNatClampNeg) = .ref (G.1 b) := by simp [hb, va_rf]
  have hh := h p e R s m args below meth c H locs cells slots Q ls G A Cx Sx Rx Fx
  have hp := Sx.1 a _ (kw_W_at hk)
  rcases ht with rfl | rfl
  · refine W.aald (v := .ref (G.1 b)) (ty := .array .int) Cx.1 Cx.2.1 hp ((Cx.2.2.2.2.2.2.2.1.2 1 _ rfl).1 rs.length (fun j => va_rf ((rs[j]?).map G.1))) rfl (fun q => by cases q) (by show ¬ (x < 0 ∨ (arrV _ _ _).slots.size ≤ _); rw [arrV_size]; exact hin) (by show (arrV _ _ _).slots[_]? = _; rw [arrV_read _ _ hlt]; exact congrArg some ee) rfl rfl (kw_dec Cx hi) hh
  · refine W.aald (v := .ref (G.1 b)) (ty := .object "WashSails$Chart") Cx.1 Cx.2.1 hp ((Cx.2.2.2.2.2.2.2.1.2 2 _ rfl).1 rs.length (fun j => va_rf ((rs[j]?).map G.1))) rfl (fun q => by cases q) (by show ¬ (x < 0 ∨ (arrV _ _ _).slots.size ≤ _); rw [arrV_size]; exact hin) (by show (arrV _ _ _).slots[_]? = _; rw [arrV_read _ _ hlt]; exact congrArg some ee) rfl rfl (kw_dec Cx hi) hh
/-- a row that nobody writes -/
theorem kw_tld {i k a n : Nat} {f : Nat → Int32} {x : Int32} (hi : M.2[i]? = some (pc, .iaload, 1)) (hE : E[k]? = some (a, n, f)) (h0 : 0 ≤ x.toInt) (h1 : x.toInt < n) (h : ∀ v : Int32, v = f x.toNatClampNeg → kw_AW l d E K M P (pc + 1) lv (.int v :: st) σ) : kw_AW l d E K M P pc lv (.int x :: .ref a :: st) σ := by
  intro p e R s m args below meth c H locs cells slots Q ls G A Cx Sx Rx Fx
  exact va_ti Cx.1 Cx.2.1 (Cx.2.2.2.2.2.2.2.2.2.1.2.2.1 _ (List.mem_of_getElem? hE)) Sx.2.2.1 (kw_in h0 h1) rfl (kw_dec Cx hi) (h _ rfl p e R s m args below meth c H locs cells slots Q ls G A Cx Sx Rx Fx)
theorem kw_tlen {i k a n : Nat} {f : Nat → Int32} {v : Int32} (hi : M.2[i]? = some (pc, .arraylength, 1)) (hE : E[k]? = some (a, n, f)) (hv : Int32.ofNat n = v) (h : kw_AW l d E K M P (pc + 1) lv (.int v :: st) σ) : kw_AW l d E K M P pc lv (.ref a :: st) σ := by
  intro p e R s m args below meth c H locs cells slots Q ls G A Cx Sx Rx Fx
  exact va_tlen Cx.1 Cx.2.1 (Cx.2.2.2.2.2.2.2.2.2.1.2.2.1 _ (List.mem_of_getElem? hE)) Sx.2.2.1 hv (kw_dec Cx hi) (h p e R s m args below meth c H locs cells slots Q ls G A Cx Sx Rx Fx)
theorem kw_getsL {i idx : Nat} (hi : M.2[i]? = some (pc, .getstatic idx, 3)) (ho : M.1.1 = "WashSails$Reader" ∧ idx = 72) (h : kw_AW l d E K M P (pc + 3) lv (.ref 1000 :: st) σ) : kw_AW l d E K M P pc lv st σ := by
  intro p e R s m args below meth c H locs cells slots Q ls G A Cx Sx Rx Fx
  obtain ⟨ho, rfl⟩ := ho
  have hown := Cx.2.2.2.2.2.1
  rw [ho] at hown
  exact va_getsN Cx.1 Cx.2.1 Cx.2.2.2.2.2.2.2.2.2.1.1 Sx.2.2.1 hown (va_Nw.use rfl Cx.2.2.2.2.2.2.2.2.2.1.2.2.2.2) (fun _ h9 => h9) (kw_dec Cx hi) (h p e R s m args below meth c H locs cells slots Q ls G A Cx Sx Rx Fx)
theorem kw_getsK {i idx : Nat} (hi : M.2[i]? = some (pc, .getstatic idx, 3)) (hl : Cond.fieldLink M.1.1 idx "WashSails" "KIND_ABOVE" "[I" ∈ kw_ws) (h : kw_AW l d E K M P (pc + 3) lv (.ref 1001 :: st) σ) : kw_AW l d E K M P pc lv st σ := by
  intro p e R s m args below meth c H locs cells slots Q ls G A Cx Sx Rx Fx
  exact va_gets Cx.1 Cx.2.1 Cx.2.2.2.2.2.2.2.2.2.1.2.1 Sx.2.2.1 Cx.2.2.2.2.2.1 (Cx.2.2.2.2.2.2.1 _ hl) (fun _ h9 => h9) (kw_dec Cx hi) (h p e R s m args below meth c H locs cells slots Q ls G A Cx Sx Rx Fx)

end KWR
end
section
section KWC
variable {l : Launch} {d : Nat} {E : kw_E} {K : List kw_K1} {M : kw_M} {P : Option Value → kw_S → Prop} {pc : Nat} {lv : List (Nat × Value)} {st : List Value} {σ : kw_S}
theorem kw_run {p : Program} {e : Env} {R : Room} {s : State} {m : MethodId} {args : Array Value} {below : List Frame} {meth : Method} {c : Code} {H : Heap} {locs : List Loc} {cells slots : Nat} {Q : State → Prop} {ls : Array Slot} {G : kw_G} {A0 A1 : Nat → Prop} {a : Array Value} {st0 rest : List Value} {P' : Option Value → kw_S → Prop}
    (hr : va_Run p l e R s m args below meth c H locs cells slots 0 0 (F0 m pc ls st0) rest (kw_Q G K P' A1 a) A1) (hS : va_S A0 s.heap H locs) (hA : ∀ q, A1 q → A0 q)
    (kk : ∀ (v : Option Value) (σ' : kw_S) (H1 : Heap) (locs1 : List Loc), P' v σ' → va_P G.2.1 vwCl (kw_W G K σ') H1 → va_S A0 s.heap H1 locs1 → W p l e R s m args below meth c H1 locs1 cells slots Q (F0 m (pc + 3) ls ((v.map (kw_rv G.1)).toList ++ rest))) : W p l e R s m args below meth c H locs cells slots Q (F0 m pc ls st0) := by
  intro T hT X
  obtain ⟨v, st₀, t, T', L, h0, X', hL, e1, e2, ⟨⟨u, σ', hv, hp, hb⟩, hz, hk⟩, stp⟩ := hr T hT X
  cases hv
  rw [h0] at hz hk
  obtain ⟨t2, a1, b1⟩ := kk u σ' T'.heap (locs ++ L) hp (by rw [e1]; exact hb)
    ⟨Nat.le_trans hS.1 (by rw [e1]; exact hz), fun q h1 h2 => by rw [e1, hk q (Nat.lt_of_lt_of_le h1 hS.1) (fun z => h2 (hA q z))]; exact hS.2.1 q h1 h2, fun q hq => by
      rcases List.mem_append.mp hq with h | h
      · exact hS.2.2 q h
      · exact hA _ (hL q h)⟩ T' rfl X'
  exact ⟨t2, stp t2 a1, b1⟩
theorem kw_free {G : kw_G} {A : Nat → Prop} {s : State} {H : Heap} {locs : List Loc} (hD : va_D A (kw_W G K σ)) (hS : va_S A s.heap H locs) (hA : ∀ q : Nat, s.heap.size ≤ q → A q) : ∀ q, va_A (kw_W G K σ) H.size q → A q := by
  intro q h
  rcases h with ⟨k, e, h⟩ | h
  · exact hD.2 k (q, e) h
  · exact hA q (Nat.le_trans hS.1 h)
theorem kw_catsum (ad : Nat → Nat) : ∀ st : List Value, ((st.map (kw_rv ad)).map fun v => v.category).sum = (st.map fun v => v.category).sum
  | [] => rfl
  | v :: st => by simp only [List.map_cons, List.sum_cons, kw_cat]; rw [kw_catsum ad st]
/-- the words of a call of an instance's method; of a static one; of a nest mate's static one -/
def kw_lkV (own : String) (idx ci : Nat) (Y : kw_M) : Prop := (∃ (T : u_T) (N : Nat), vwCl[ci]? = some (Y.1.2.1.cls, T, N)) ∧ Cond.methodLink own idx Y.1.2.1 ∈ kw_ws ∧ Cond.instanceMethod Y.1.2.1 ∈ kw_ws ∧ Cond.selects Y.1.2.1.cls Y.1.2.1 Y.1.2.1 ∈ kw_ws ∧ Cond.initialized Y.1.2.1.cls ∈ kw_ws ∧ Cond.code Y.1.2.1 Y.1.2.2.1 Y.1.2.2.2.1 Y.1.2.2.2.2 ∈ kw_ws ∧ Y.1.2.1.cls ≠ "java/lang/invoke/MethodHandle" ∧ Y.1.2.1.cls ≠ "java/lang/invoke/VarHandle" ∧ Y.1.2.2.2.1 ≤ 41
def kw_lkS (own : String) (idx : Nat) (Y : kw_M) : Prop := Cond.methodLink own idx Y.1.2.1 ∈ kw_ws ∧ Cond.static Y.1.2.1 ∈ kw_ws ∧ Cond.initialized Y.1.2.1.cls ∈ kw_ws ∧ Cond.code Y.1.2.1 Y.1.2.2.1 Y.1.2.2.2.1 Y.1.2.2.2.2 ∈ kw_ws ∧ Y.1.2.1.cls ≠ "java/lang/invoke/MethodHandle" ∧ Y.1.2.1.cls ≠ "java/lang/invoke/VarHandle" ∧ Y.1.2.2.2.1 ≤ 41
def kw_lkN (own : String) (idx : Nat) (Y : kw_M) : Prop := (own, idx, Y.1.2.1) ∈ kw_NM ∧ Cond.static Y.1.2.1 ∈ kw_ws ∧ Cond.initialized Y.1.2.1.cls ∈ kw_ws ∧ Cond.code Y.1.2.1 Y.1.2.2.1 Y.1.2.2.2.1 Y.1.2.2.2.2 ∈ kw_ws ∧ Y.1.2.1.cls ≠ "java/lang/invoke/MethodHandle" ∧ Y.1.2.1.cls ≠ "java/lang/invoke/VarHandle" ∧ Y.1.2.2.2.1 ≤ 41
theorem kw_goodw {w : Cond} (h : w ∈ kw_ws) : w ∈ kw_ws ∧ ((w.onTables && w.keeps) = true ∨ ∃ ty, w = .arrayClass ty) := ⟨h, good_of_word (List.mem_filter.mp h).2⟩
theorem kw_pre {G : kw_G} {A : Nat → Prop} {p : Program} {s : State} {m : MethodId} {args : Array Value} {meth : Method} {c : Code} {H : Heap} {locs : List Loc} {ls : Array Slot} (Cx : kw_Cx E M G A p s m args meth c) (Sx : kw_Sx K M G A s H locs ls lv σ) (hE : ∀ q ∈ kw_E0, q ∈ E) (As : List Value) : ∀ U : State, U.heap = H → s.WarmedH U.vm → kw_Pre G K σ H.size As (As.map (kw_rv G.1)).toArray U := by
  intro U hU hW
  refine ⟨rfl, by rw [hU], by rw [hU]; exact Sx.1, va_K.moved hW.alike Cx.2.2.2.2.2.2.2.1, Sx.2.1.weaken (fun _ _ _ _ => trivial), ?_⟩
  rw [hU]
  exact Cx.2.2.2.2.2.2.2.2.2.1.next hE hW Sx.2.2.1 (kw_free Sx.2.1 Sx.2.2.1 Cx.2.2.2.2.2.2.2.2.1)
theorem kw_callV {i idx ci a d' : Nat} {fs : List Value} {Y : kw_M} {As st0 : List Value} {P' : Option Value → kw_S → Prop} (hE : ∀ q ∈ kw_E0, q ∈ E) (hi : M.2[i]? = some (pc, .invokevirtual idx, 3)) (hk : K[a]? = some (.inr (ci, fs))) (hl : kw_lkV M.1.1 idx ci Y) (hn : (parseMethodDescriptor Y.1.2.1.desc).map (fun d => d.parameters.length) = some As.length) (hM : kw_Met l d' K Y (.ref a :: As) σ P') (hd : d' < d) (hc : (st.map fun v => v.category).sum ≤ 8) (hst : st0 = As.reverse ++ .ref a :: st)
    (kk : ∀ (v : Option Value) (σ' : kw_S), P' v σ' → kw_AW l d E K M P (pc + 3) lv (v.toList ++ st) σ') : kw_AW l d E K M P pc lv st0 σ := by
  intro p e R s m args below meth c H locs cells slots Q ls G A Cx Sx Rx Fx
  obtain ⟨⟨T, N, h1⟩, h2, h3, h4, h5, h6, h7, h8, h9⟩ := hl
  have hT : GoodIn kw_ws (wsV M.1.1 idx Y.1.2.1.cls Y.1.2.1 (.code Y.1.2.1 Y.1.2.2.1 Y.1.2.2.2.1 Y.1.2.2.2.2 :: kw_ws)) := by
    intro w hw
    rcases List.mem_append.mp hw with q | q
    · simp only [List.mem_cons, List.not_mem_nil, or_false] at q
      rcases q with rfl | rfl | rfl | rfl
      · exact kw_goodw h2
      · exact kw_goodw h3
      · exact kw_goodw h4
      · exact kw_goodw h5
    · rcases List.mem_cons.mp q with rfl | q
      · exact kw_goodw h6
      · exact kw_goodw q
  have cw := cwV (R := R) (own := M.1.1) (index := idx) (C := Y.1.2.1.cls) (y := Y.1.2.1) (rm := kw_rm d') (mc := 0) (ms := 0) As.length Cx.2.2.2.2.2.2.1 hT rfl rfl rfl ⟨rfl, h7, h8, hn⟩ ⟨by show d' + 1 ≤ _; omega, by show _ + 60 * d' ≤ _; omega⟩
  have hrec := va_recv (q := (Y.1.2.1.cls, T, N)) Cx.2.2.2.2.2.2.2.1 Sx.1 h1 (kw_W_at hk)
  have hrun := va_runV (g := F0 m pc ls (st0.map (kw_rv G.1))) (b := G.1 a) (As := As.map (kw_rv G.1)) (rest := st.map (kw_rv G.1)) (cells := cells) (slots := slots) (locs := locs) (e := e) (below := below) (meth := meth) ⟨Cx.1, Cx.2.1, Cx.2.2.2.2.1, Cx.2.2.2.2.2.1, Cx.2.2.2.2.2.2.1⟩ (hM G H.size) cw ⟨kw_blind, hrec, kw_pre Cx Sx hE (.ref a :: As)⟩ rfl (by simp) Sx.2.2.2.1 (by rw [hst]; simp [kw_rv]) (by rw [kw_catsum]; exact lv_room (rest := st0.map (kw_rv G.1)) hc) (kw_dec Cx hi) ⟨Rx.2.2.1, Rx.2.2.2⟩
  refine kw_run hrun Sx.2.2.1 (kw_free Sx.2.1 Sx.2.2.1 Cx.2.2.2.2.2.2.2.2.1) (fun v σ' H1 locs1 hP' hP1 hS1 => ?_)
  have hh := kk v σ' hP' p e R s m args below meth c H1 locs1 cells slots Q ls G A Cx ⟨hP1, kw_D σ' Sx.2.1, hS1, Sx.2.2.2⟩ Rx Fx
  cases v <;> exact hh
theorem kw_callS {i idx d' : Nat} {Y : kw_M} {As st0 : List Value} {P' : Option Value → kw_S → Prop} (hE : ∀ q ∈ kw_E0, q ∈ E) (hi : M.2[i]? = some (pc, .invokestatic idx, 3)) (hl : kw_lkS M.1.1 idx Y) (hn : (parseMethodDescriptor Y.1.2.1.desc).map (fun d => d.parameters.length) = some As.length) (hM : kw_Met l d' K Y As σ P') (hd : d' < d) (hc : (st.map fun v => v.category).sum ≤ 8) (hst : st0 = As.reverse ++ st)
    (kk : ∀ (v : Option Value) (σ' : kw_S), P' v σ' → kw_AW l d E K M P (pc + 3) lv (v.toList ++ st) σ') : kw_AW l d E K M P pc lv st0 σ := by
  intro p e R s m args below meth c H locs cells slots Q ls G A Cx Sx Rx Fx
  obtain ⟨h2, h3, h5, h6, h7, h8, h9⟩ := hl
  have hT : GoodIn kw_ws (va_wsS M.1.1 idx Y.1.2.1 (.code Y.1.2.1 Y.1.2.2.1 Y.1.2.2.2.1 Y.1.2.2.2.2 :: kw_ws)) := by
    intro w hw
    rcases List.mem_append.mp hw with q | q
    · simp only [List.mem_cons, List.not_mem_nil, or_false] at q
      rcases q with rfl | rfl | rfl
      · exact kw_goodw h2
      · exact kw_goodw h3
      · exact kw_goodw h5
    · rcases List.mem_cons.mp q with rfl | q
      · exact kw_goodw h6
      · exact kw_goodw q
  have cw := va_cwS (R := R) (own := M.1.1) (index := idx) (y := Y.1.2.1) (rm := kw_rm d') (mc := 0) (ms := 0) As.length Cx.2.2.2.2.2.2.1 hT rfl rfl rfl ⟨h7, h8, hn⟩ ⟨by show d' + 1 ≤ _; omega, by show _ + 60 * d' ≤ _; omega⟩
  have hrun := va_runS (g := F0 m pc ls (st0.map (kw_rv G.1))) (As := As.map (kw_rv G.1)) (rest := st.map (kw_rv G.1)) (cells := cells) (slots := slots) (locs := locs) (e := e) (below := below) (meth := meth) ⟨Cx.1, Cx.2.1, Cx.2.2.2.2.1, Cx.2.2.2.2.2.1, Cx.2.2.2.2.2.2.1⟩ (hM G H.size) cw ⟨kw_blind, kw_pre Cx Sx hE As⟩ rfl (by simp) Sx.2.2.2.1 (by rw [hst]; simp) (by rw [kw_catsum]; exact lv_room (rest := st0.map (kw_rv G.1)) hc) (kw_dec Cx hi) ⟨Rx.2.2.1, Rx.2.2.2⟩
  refine kw_run hrun Sx.2.2.1 (kw_free Sx.2.1 Sx.2.2.1 Cx.2.2.2.2.2.2.2.2.1) (fun v σ' H1 locs1 hP' hP1 hS1 => ?_)
  have hh := kk v σ' hP' p e R s m args below meth c H1 locs1 cells slots Q ls G A Cx ⟨hP1, kw_D σ' Sx.2.1, hS1, Sx.2.2.2⟩ Rx Fx
  cases v <;> exact hh
theorem kw_callN {i idx d' : Nat} {Y : kw_M} {As st0 : List Value} {P' : Option Value → kw_S → Prop} (hE : ∀ q ∈ kw_E0, q ∈ E) (hi : M.2[i]? = some (pc, .invokestatic idx, 3)) (hl : kw_lkN M.1.1 idx Y) (hn : (parseMethodDescriptor Y.1.2.1.desc).map (fun d => d.parameters.length) = some As.length) (hM : kw_Met l d' K Y As σ P') (hd : d' < d) (hc : (st.map fun v => v.category).sum ≤ 8) (hst : st0 = As.reverse ++ st)
    (kk : ∀ (v : Option Value) (σ' : kw_S), P' v σ' → kw_AW l d E K M P (pc + 3) lv (v.toList ++ st) σ') : kw_AW l d E K M P pc lv st0 σ := by
  intro p e R s m args below meth c H locs cells slots Q ls G A Cx Sx Rx Fx
  obtain ⟨h2, h3, h5, h6, h7, h8, h9⟩ := hl
  have hT : GoodIn kw_ws (.code Y.1.2.1 Y.1.2.2.1 Y.1.2.2.2.1 Y.1.2.2.2.2 :: kw_ws) := by
    intro w hw
    rcases List.mem_cons.mp hw with rfl | q
    · exact kw_goodw h6
    · exact kw_goodw q
  have cw := va_cnB (R := R) (s := s) (args := args) (own := M.1.1) (host := "WashSails") (index := idx) (y := Y.1.2.1) (rm := kw_rm d') (mc := 0) (ms := 0) As.length Cx.2.2.2.2.2.2.1 hT rfl rfl rfl (Cx.2.2.2.2.2.2.2.2.2.1.2.2.2.1 _ h2) (Cx.2.2.2.2.2.2.1 _ h5) ⟨h7, h8, hn⟩ ⟨by show d' + 1 ≤ _; omega, by show _ + 60 * d' ≤ _; omega⟩
  have hrun := va_runSN (g := F0 m pc ls (st0.map (kw_rv G.1))) (As := As.map (kw_rv G.1)) (rest := st.map (kw_rv G.1)) (cells := cells) (slots := slots) (locs := locs) (e := e) (below := below) (meth := meth) ⟨Cx.1, Cx.2.1, Cx.2.2.2.2.1, Cx.2.2.2.2.2.1, Cx.2.2.2.2.2.2.1⟩ (hM G H.size) ⟨cw, Cx.2.2.2.2.2.2.1 _ h3, trivial⟩ ⟨kw_blind, kw_pre Cx Sx hE As⟩ rfl (by simp) Sx.2.2.2.1 (by rw [hst]; simp) (by rw [kw_catsum]; exact lv_room (rest := st0.map (kw_rv G.1)) hc) (kw_dec Cx hi) ⟨Rx.2.2.1, Rx.2.2.2⟩
  refine kw_run hrun Sx.2.2.1 (kw_free Sx.2.1 Sx.2.2.1 Cx.2.2.2.2.2.2.2.2.1) (fun v σ' H1 locs1 hP' hP1 hS1 => ?_)
  have hh := kk v σ' hP' p e R s m args below meth c H1 locs1 cells slots Q ls G A Cx ⟨hP1, kw_D σ' Sx.2.1, hS1, Sx.2.2.2⟩ Rx Fx
  cases v <;> exact hh
/-- System.arraycopy of ints -/
def kw_lkA (own : String) (idx : Nat) : Prop := Cond.methodLink own idx arraycopyName ∈ kw_ws ∧ Cond.native arraycopyName ∈ kw_ws ∧ Cond.static arraycopyName ∈ kw_ws ∧ Cond.initialized "java/lang/System" ∈ kw_ws
theorem kw_copy {i idx a b n m_ : Nat} {sp dp k : Int32} (hi : M.2[i]? = some (pc, .invokestatic idx, 3)) (hl : kw_lkA M.1.1 idx) (ha : K[a]? = some (.inl (.inl n))) (hb : K[b]? = some (.inl (.inl m_))) (h0 : 0 ≤ sp.toInt) (h1 : 0 ≤ dp.toInt) (h2 : 0 ≤ k.toInt) (h3 : sp.toInt + k.toInt ≤ n) (h4 : dp.toInt + k.toInt ≤ m_) (hd : 1 < d) (hc : (st.map fun v => v.category).sum ≤ 8)
    (h : kw_AW l d E K M P (pc + 3) lv st (kw_ua σ b (va_cpy (σ.1 a) (σ.1 b) sp.toNatClampNeg dp.toNatClampNeg k.toNatClampNeg))) : kw_AW l d E K M P pc lv (.int k :: .int dp :: .ref b :: .int sp :: .ref a :: st) σ := by
  intro p e R s m args below meth c H locs cells slots Q ls G A Cx Sx Rx Fx
  obtain ⟨g1, g2, g3, g4⟩ := hl
  have hts := Cx.2.2.2.2.2.2.1
  have nn : ∀ z : Int32, 0 ≤ z.toInt → ¬ z < 0 := fun z hz q => by
    have e0 : (0 : Int32).toInt = 0 := rfl
    have := Int32.lt_iff_toInt_lt.mp q
    omega
  have c0 := kw_clampI h0
  have c1 := kw_clampI h1
  have c2 := kw_clampI h2
  refine va_copyi (D := G.2.1) (n0 := n) (n1 := m_) (f := σ.1 a) (g := σ.1 b) (ty := .int) Cx.1 Cx.2.1 (Cx.2.2.2.2.1.trans Sx.2.2.2.1.symm) Cx.2.2.2.2.2.1 (hts _ g1) (hts _ g2) (hts _ g3) (hts _ g4) Cx.2.2.2.2.2.2.2.1 Sx.1 Sx.2.1 Sx.2.2.1 a b 0 0 (kw_W_at ha) (kw_W_at hb) rfl rfl rfl (nn _ h0) (nn _ h1) (nn _ h2) (by omega) (by omega) (fun _ _ => rfl) (by omega) ?_ (kw_dec Cx hi) (fun H1 locs1 hP hD hS => ?_)
  · rw [kw_catsum]
    have : nativeFrameWords "java/lang/System" "arraycopy" 5 + 11 ≤ 100 := by first | (set_option maxRecDepth 100000 in exact Nat.le_of_ble_eq_true rfl) | decide +kernel
    omega
  · rw [kw_W_ua hb] at hP hD
    exact h p e R s m args below meth c H1 locs1 cells slots Q ls G A Cx ⟨hP, hD, hS, Sx.2.2.2⟩ Rx Fx
end KWC
end
