/-! ===== a system whose cells stand: the state is ints and longs by cell and place; a frame's judgement over it ===== -/
abbrev kw_S : Type := (Nat → Nat → Int32) × (Nat → Nat → Int64)
abbrev kw_K1 : Type := (Nat ⊕ (Nat × List Nat)) ⊕ (Nat × List Value)
abbrev kw_G : Type := (Nat → Nat) × va_G × (Nat → ClassId)
abbrev kw_M : Type := (String × MethodName × ByteArray × Nat × Option FieldType) × List (Nat × Instr × Nat)
abbrev kw_E : Type := List (Nat × Nat × (Nat → Int32))
def kw_rv (ad : Nat → Nat) (v : Value) : Value := match v with
  | .ref a => .ref (ad a)
  | w => w
def kw_fv (ad : Nat → Nat) (σ : kw_S) (a j : Nat) (t : Value) : Value := match t with
  | .int _ => .int (σ.1 a j)
  | .long _ => .long (σ.2 a j)
  | w => kw_rv ad w
def kw_fill (ad : Nat → Nat) (σ : kw_S) (a : Nat) (fs : List Value) : List Value := fs.mapIdx (kw_fv ad σ a)
def kw_cell (G : kw_G) (σ : kw_S) (a : Nat) (k : kw_K1) : va_E := match k with
  | .inl (.inl n) => .inl (G.2.2 0, n, .inl (σ.1 a))
  | .inl (.inr (t, rs)) => .inl (G.2.2 t, rs.length, .inr (.inr (.inr (.inr (fun j => (rs[j]?).map G.1)))))
  | .inr (ci, fs) => .inr (ci, kw_fill G.1 σ a fs)
def kw_W (G : kw_G) (K : List kw_K1) (σ : kw_S) : va_W := K.mapIdx (fun a k => (G.1 a, kw_cell G σ a k))
theorem kw_W_get (G : kw_G) (K : List kw_K1) (σ : kw_S) (a : Nat) : (kw_W G K σ)[a]? = (K[a]?).map (fun k => (G.1 a, kw_cell G σ a k)) := by
  simp [kw_W, List.getElem?_mapIdx]
theorem kw_W_at {G : kw_G} {K : List kw_K1} {σ : kw_S} {a : Nat} {k : kw_K1} (h : K[a]? = some k) : (kw_W G K σ)[a]? = some (G.1 a, kw_cell G σ a k) := by
  rw [kw_W_get, h]; rfl
theorem kw_cell_eq {G : kw_G} {σ σ' : kw_S} {a : Nat} (h1 : σ.1 a = σ'.1 a) (h2 : σ.2 a = σ'.2 a) (k : kw_K1) : kw_cell G σ a k = kw_cell G σ' a k := by
  rcases k with (n | ⟨t, rs⟩) | ⟨ci, fs⟩
  · simp [kw_cell, h1]
  · rfl
  · have e : kw_fv G.1 σ a = kw_fv G.1 σ' a := by
      funext j t
      cases t <;> simp [kw_fv, h1, h2]
    simp [kw_cell, kw_fill, e]
theorem kw_W_set {G : kw_G} {K : List kw_K1} {σ σ' : kw_S} {a : Nat} {k : kw_K1} {e : va_E} (hk : K[a]? = some k) (hc : kw_cell G σ' a k = e) (h1 : ∀ b, b ≠ a → σ.1 b = σ'.1 b) (h2 : ∀ b, b ≠ a → σ.2 b = σ'.2 b) : (kw_W G K σ).set a (G.1 a, e) = kw_W G K σ' := by
  apply List.ext_getElem?
  intro b
  by_cases hb : b = a
  · subst hb
    have hl : b < (kw_W G K σ).length := (List.getElem?_eq_some_iff.mp (kw_W_at (G := G) (σ := σ) hk)).1
    rw [List.getElem?_set_self hl, kw_W_at hk, hc]
  · rw [List.getElem?_set_ne (Ne.symm hb), kw_W_get, kw_W_get]
    cases K[b]? with
    | none => rfl
    | some k => simp only [Option.map_some]; rw [kw_cell_eq (h1 b hb) (h2 b hb)]
def kw_ui (σ : kw_S) (a i : Nat) (x : Int32) : kw_S := (fun b => if b = a then upd (σ.1 a) i x else σ.1 b, σ.2)
def kw_ul (σ : kw_S) (a i : Nat) (x : Int64) : kw_S := (σ.1, fun b => if b = a then vp_updL (σ.2 a) i x else σ.2 b)
def kw_ua (σ : kw_S) (a : Nat) (f : Nat → Int32) : kw_S := (fun b => if b = a then f else σ.1 b, σ.2)
theorem kw_fill_get (ad : Nat → Nat) (σ : kw_S) (a : Nat) (fs : List Value) (j : Nat) : (kw_fill ad σ a fs)[j]? = (fs[j]?).map (kw_fv ad σ a j) := by
  simp [kw_fill, List.getElem?_mapIdx]
theorem kw_fill_seti {ad : Nat → Nat} {σ : kw_S} {a : Nat} {fs : List Value} {j : Nat} {z x : Int32} (h : fs[j]? = some (.int z)) : (kw_fill ad σ a fs).set j (.int x) = kw_fill ad (kw_ui σ a j x) a fs := by
  apply List.ext_getElem?
  intro i
  by_cases hi : i = j
  · subst hi
    have hl : i < (kw_fill ad σ a fs).length := by
      have := (List.getElem?_eq_some_iff.mp h).1
      simp [kw_fill, this]
    rw [List.getElem?_set_self hl, kw_fill_get, h]
    simp [kw_fv, kw_ui, upd]
  · rw [List.getElem?_set_ne (Ne.symm hi), kw_fill_get, kw_fill_get]
    cases fs[i]? with
    | none => rfl
    | some t => cases t <;> simp [kw_fv, kw_ui, upd, hi]
theorem kw_fill_setl {ad : Nat → Nat} {σ : kw_S} {a : Nat} {fs : List Value} {j : Nat} {z x : Int64} (h : fs[j]? = some (.long z)) : (kw_fill ad σ a fs).set j (.long x) = kw_fill ad (kw_ul σ a j x) a fs := by
  apply List.ext_getElem?
  intro i
  by_cases hi : i = j
  · subst hi
    have hl : i < (kw_fill ad σ a fs).length := by
      have := (List.getElem?_eq_some_iff.mp h).1
      simp [kw_fill, this]
    rw [List.getElem?_set_self hl, kw_fill_get, h]
    simp [kw_fv, kw_ul, vp_updL]
  · rw [List.getElem?_set_ne (Ne.symm hi), kw_fill_get, kw_fill_get]
    cases fs[i]? with
    | none => rfl
    | some t => cases t <;> simp [kw_fv, kw_ul, vp_updL, hi]
theorem kw_W_ui {G : kw_G} {K : List kw_K1} {σ : kw_S} {a n i : Nat} {x : Int32} (hk : K[a]? = some (.inl (.inl n))) : (kw_W G K σ).set a (G.1 a, .inl (G.2.2 0, n, .inl (upd (σ.1 a) i x))) = kw_W G K (kw_ui σ a i x) :=
  kw_W_set hk (by simp [kw_cell, kw_ui]) (fun b hb => by simp [kw_ui, hb]) (fun _ _ => rfl)
theorem kw_W_ua {G : kw_G} {K : List kw_K1} {σ : kw_S} {a n : Nat} {f : Nat → Int32} (hk : K[a]? = some (.inl (.inl n))) : (kw_W G K σ).set a (G.1 a, .inl (G.2.2 0, n, .inl f)) = kw_W G K (kw_ua σ a f) :=
  kw_W_set hk (by simp [kw_cell, kw_ua]) (fun b hb => by simp [kw_ua, hb]) (fun _ _ => rfl)
theorem kw_W_pi {G : kw_G} {K : List kw_K1} {σ : kw_S} {a ci j : Nat} {fs : List Value} {x z : Int32} (hk : K[a]? = some (.inr (ci, fs))) (hf : fs[j]? = some (.int z)) : (kw_W G K σ).set a (G.1 a, .inr (ci, (kw_fill G.1 σ a fs).set j (.int x))) = kw_W G K (kw_ui σ a j x) :=
  kw_W_set hk (by show Sum.inr _ = _; rw [kw_fill_seti hf]) (fun b hb => by simp [kw_ui, hb]) (fun _ _ => rfl)
theorem kw_W_pl {G : kw_G} {K : List kw_K1} {σ : kw_S} {a ci j : Nat} {fs : List Value} {x z : Int64} (hk : K[a]? = some (.inr (ci, fs))) (hf : fs[j]? = some (.long z)) : (kw_W G K σ).set a (G.1 a, .inr (ci, (kw_fill G.1 σ a fs).set j (.long x))) = kw_W G K (kw_ul σ a j x) :=
  kw_W_set hk (by show Sum.inr _ = _; rw [kw_fill_setl hf]) (fun _ _ => rfl) (fun b hb => by simp [kw_ul, hb])
theorem kw_W_same {G : kw_G} {K : List kw_K1} (σ σ' : kw_S) {i : Nat} {q : Nat × va_E} (h : (kw_W G K σ)[i]? = some q) : ∃ q' : Nat × va_E, (kw_W G K σ')[i]? = some q' ∧ q'.1 = q.1 := by
  rw [kw_W_get] at h
  cases hk : K[i]? with
  | none => rw [hk] at h; cases h
  | some k =>
    rw [hk] at h
    cases h
    exact ⟨_, kw_W_at hk, rfl⟩
theorem kw_D {G : kw_G} {K : List kw_K1} {σ : kw_S} (σ' : kw_S) {A : Nat → Prop} (h : va_D A (kw_W G K σ)) : va_D A (kw_W G K σ') := by
  refine ⟨fun i j p q hi hj hpq => ?_, fun k q hk => ?_⟩
  · obtain ⟨p', h1, h2⟩ := kw_W_same σ' σ hi
    obtain ⟨q', h3, h4⟩ := kw_W_same σ' σ hj
    exact h.1 i j p' q' h1 h3 (h2.trans (hpq.trans h4.symm))
  · obtain ⟨q', h1, h2⟩ := kw_W_same σ' σ hk
    rw [← h2]
    exact h.2 k q' h1
theorem kw_A {G : kw_G} {K : List kw_K1} {σ : kw_S} (σ' : kw_S) {sz q : Nat} (h : va_A (kw_W G K σ) sz q) : va_A (kw_W G K σ') sz q := by
  rcases h with ⟨k, e, h⟩ | h
  · obtain ⟨q', h1, h2⟩ := kw_W_same σ σ' h
    obtain ⟨x, y⟩ := q'
    cases h2
    exact Or.inl ⟨k, y, h1⟩
  · exact Or.inr h
abbrev kw_tys (G : kw_G) : List (ClassId × FieldType) := [(G.2.2 0, .int), (G.2.2 1, .array .int), (G.2.2 2, .object "WashSails$Chart")]
