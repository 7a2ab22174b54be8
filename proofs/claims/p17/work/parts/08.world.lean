/-! ===== the class's cells, and the bounds that its numbers keep ===== -/
def KX : List kw_K1 := [.inr (7, [.ref 1, .ref 2, .ref 3, .ref 4, .ref 5, .ref 6, .ref 7, .ref 8, .ref 9, .ref 10, .ref 11]), .inr (3, [.int 0, .ref 12, .ref 13]), .inr (3, [.int 0, .ref 14, .ref 15]), .inr (2, [.ref 16, .int 0]), .inr (5, [.ref 17, .ref 18, .ref 19, .int 0, .int 0, .int 0, .int 0, .int 0]), .inr (3, [.int 0, .ref 20, .ref 21]), .inr (0, [.ref 22, .ref 23, .int 0, .int 0]), .inr (6, [.ref 24, .int 0, .ref 25, .ref 26, .ref 27, .int 0, .int 0, .int 0]), .inr (4, [.ref 28, .int 0, .int 0, .long 0, .long 0]), .inl (.inl 6), .inl (.inl 6), .inl (.inl 6), .inl (.inr (1, [29, 30, 31, 32, 33, 34])), .inl (.inl 6), .inl (.inr (1, [35, 36, 37, 38])), .inl (.inl 4), .inr (1, [.ref 39, .ref 40, .ref 41, .ref 42, .ref 43, .int 0, .int 0]), .inr (1, [.ref 44, .ref 45, .ref 46, .ref 47, .ref 48, .int 0, .int 0]), .inl (.inl 40), .inl (.inl 6), .inl (.inr (1, [49, 50, 51])), .inl (.inl 3), .inl (.inl 64), .inl (.inl 64), .inl (.inl 3), .inl (.inr (2, [52, 53, 54])), .inl (.inl 4), .inl (.inl 3), .inl (.inl 6), .inl (.inl 40), .inl (.inl 40), .inl (.inl 40), .inl (.inl 40), .inl (.inl 40), .inl (.inl 40), .inl (.inl 60), .inl (.inl 60), .inl (.inl 60), .inl (.inl 60), .inl (.inl 6), .inl (.inl 6), .inl (.inl 6), .inl (.inl 6), .inl (.inl 8), .inl (.inl 6), .inl (.inl 6), .inl (.inl 6), .inl (.inl 6), .inl (.inl 8), .inl (.inl 40), .inl (.inl 40), .inl (.inl 40), .inr (0, [.ref 55, .ref 56, .int 0, .int 0]), .inr (0, [.ref 57, .ref 58, .int 0, .int 0]), .inr (0, [.ref 59, .ref 60, .int 0, .int 0]), .inl (.inl 64), .inl (.inl 64), .inl (.inl 64), .inl (.inl 64), .inl (.inl 64), .inl (.inl 64)]
def KM : List kw_K1 := [.inr (8, [.int 0, .ref 1, .int 0, .long 0, .long 0, .ref 2, .ref 3, .ref 4, .ref 5, .ref 6, .int 0, .int 0, .ref 7, .ref 8, .ref 9, .ref 10, .ref 11, .int 0, .int 0, .int 0, .ref 12, .ref 13, .int 0, .int 0, .int 0, .int 0, .ref 14, .int 0, .ref 15, .ref 16, .ref 17, .ref 18, .ref 19, .ref 20, .ref 21, .ref 22, .long 0]), .inl (.inl 6), .inl (.inl 6), .inl (.inl 240), .inl (.inl 40), .inl (.inl 4), .inl (.inl 240), .inl (.inl 8), .inl (.inl 6), .inl (.inl 6), .inl (.inl 6), .inl (.inl 6), .inl (.inl 8), .inl (.inl 24), .inl (.inl 6), .inl (.inl 400), .inl (.inl 3), .inl (.inl 1233), .inl (.inl 192), .inl (.inl 192), .inl (.inl 3), .inl (.inl 64), .inl (.inl 64)]
abbrev kw_B : Type := Nat → Nat → Int × Int
def kw_I (b : kw_B) (σ : kw_S) : Prop := ∀ a j : Nat, (b a j).1 ≤ (σ.1 a j).toInt ∧ (σ.1 a j).toInt ≤ (b a j).2
theorem kw_I_ui {b : kw_B} {σ : kw_S} (h : kw_I b σ) {a i : Nat} {x : Int32} (h1 : (b a i).1 ≤ x.toInt) (h2 : x.toInt ≤ (b a i).2) : kw_I b (kw_ui σ a i x) := by
  intro c j
  by_cases hc : c = a
  · subst hc
    by_cases hj : j = i
    · subst hj
      simp only [kw_ui, upd, if_true]
      exact ⟨h1, h2⟩
    · simp only [kw_ui, upd, if_true, hj, if_false]
      exact h c j
  · simp only [kw_ui, hc, if_false]
    exact h c j
theorem kw_I_ul {b : kw_B} {σ : kw_S} (h : kw_I b σ) (a i : Nat) (x : Int64) : kw_I b (kw_ul σ a i x) := h
theorem kw_I_ua {b : kw_B} {σ : kw_S} (h : kw_I b σ) {a : Nat} {f : Nat → Int32} (h1 : ∀ j, (b a j).1 ≤ (f j).toInt ∧ (f j).toInt ≤ (b a j).2) : kw_I b (kw_ua σ a f) := by
  intro c j
  by_cases hc : c = a
  · subst hc
    simp only [kw_ua, if_true]
    exact h1 j
  · simp only [kw_ua, hc, if_false]
    exact h c j
/-- what isn't of the list stays -/
def kw_F (L : List Nat) (σ σ' : kw_S) : Prop := ∀ a : Nat, a ∉ L → σ'.1 a = σ.1 a ∧ σ'.2 a = σ.2 a
theorem kw_F.rf {L : List Nat} {σ : kw_S} : kw_F L σ σ := fun _ _ => ⟨rfl, rfl⟩
theorem kw_F.tr {L L' : List Nat} {σ σ1 σ2 : kw_S} (h : kw_F L σ σ1) (h' : kw_F L' σ1 σ2) (hL : ∀ a ∈ L', a ∈ L) : kw_F L σ σ2 := fun a ha => ⟨(h' a (fun q => ha (hL a q))).1.trans (h a ha).1, (h' a (fun q => ha (hL a q))).2.trans (h a ha).2⟩
theorem kw_F_ui {L : List Nat} {σ σ' : kw_S} (h : kw_F L σ σ') {a i : Nat} {x : Int32} (ha : a ∈ L) : kw_F L σ (kw_ui σ' a i x) := by
  intro c hc
  have : ¬ c = a := fun q => hc (q ▸ ha)
  refine ⟨?_, (h c hc).2⟩
  simp only [kw_ui, this, if_false]
  exact (h c hc).1
theorem kw_F_ul {L : List Nat} {σ σ' : kw_S} (h : kw_F L σ σ') {a i : Nat} {x : Int64} (ha : a ∈ L) : kw_F L σ (kw_ul σ' a i x) := by
  intro c hc
  have : ¬ c = a := fun q => hc (q ▸ ha)
  refine ⟨(h c hc).1, ?_⟩
  simp only [kw_ul, this, if_false]
  exact (h c hc).2
theorem kw_F_ua {L : List Nat} {σ σ' : kw_S} (h : kw_F L σ σ') {a : Nat} {f : Nat → Int32} (ha : a ∈ L) : kw_F L σ (kw_ua σ' a f) := by
  intro c hc
  have : ¬ c = a := fun q => hc (q ▸ ha)
  refine ⟨?_, (h c hc).2⟩
  simp only [kw_ua, this, if_false]
  exact (h c hc).1
theorem kw_F.at {L : List Nat} {σ σ' : kw_S} (h : kw_F L σ σ') {a j : Nat} (ha : a ∉ L) : σ'.1 a j = σ.1 a j := by rw [(h a ha).1]
/-- the same of the reference: its own fields by 1000 + place (ints), 2000 + place (longs) -/
def kw_FM (L : List Nat) (σ σ' : kw_S) : Prop := (∀ a : Nat, a ≠ 0 → a ∉ L → σ'.1 a = σ.1 a) ∧ (∀ j : Nat, 1000 + j ∉ L → σ'.1 0 j = σ.1 0 j) ∧ ∀ j : Nat, 2000 + j ∉ L → σ'.2 0 j = σ.2 0 j
theorem kw_FM.rf {L : List Nat} {σ : kw_S} : kw_FM L σ σ := ⟨fun _ _ _ => rfl, fun _ _ => rfl, fun _ _ => rfl⟩
theorem kw_FM.tr {L L' : List Nat} {σ σ1 σ2 : kw_S} (h : kw_FM L σ σ1) (h' : kw_FM L' σ1 σ2) (hL : ∀ a ∈ L', a ∈ L) : kw_FM L σ σ2 :=
  ⟨fun a h0 ha => (h'.1 a h0 (fun q => ha (hL a q))).trans (h.1 a h0 ha), fun j hj => (h'.2.1 j (fun q => hj (hL _ q))).trans (h.2.1 j hj), fun j hj => (h'.2.2 j (fun q => hj (hL _ q))).trans (h.2.2 j hj)⟩
theorem kw_FM_ui0 {L : List Nat} {σ σ' : kw_S} (h : kw_FM L σ σ') {i : Nat} {x : Int32} (ha : 1000 + i ∈ L) : kw_FM L σ (kw_ui σ' 0 i x) := by
  refine ⟨fun a h0 hL => ?_, fun j hj => ?_, h.2.2⟩
  · simp only [kw_ui, h0, if_false]
    exact h.1 a h0 hL
  · have : ¬ j = i := fun q => hj (q ▸ ha)
    simp only [kw_ui, if_true, upd, this, if_false]
    exact h.2.1 j hj
theorem kw_FM_ul0 {L : List Nat} {σ σ' : kw_S} (h : kw_FM L σ σ') {i : Nat} {x : Int64} (ha : 2000 + i ∈ L) : kw_FM L σ (kw_ul σ' 0 i x) := by
  refine ⟨h.1, h.2.1, fun j hj => ?_⟩
  have : ¬ j = i := fun q => hj (q ▸ ha)
  simp only [kw_ul, if_true, vp_updL, this, if_false]
  exact h.2.2 j hj
theorem kw_FM_ui {L : List Nat} {σ σ' : kw_S} (h : kw_FM L σ σ') {a i : Nat} {x : Int32} (h0 : a ≠ 0) (ha : a ∈ L) : kw_FM L σ (kw_ui σ' a i x) := by
  refine ⟨fun c c0 hc => ?_, fun j hj => ?_, h.2.2⟩
  · have : ¬ c = a := fun q => hc (q ▸ ha)
    simp only [kw_ui, this, if_false]
    exact h.1 c c0 hc
  · have : ¬ 0 = a := fun q => h0 q.symm
    simp only [kw_ui, this, if_false]
    exact h.2.1 j hj
theorem kw_FM.at0 {L : List Nat} {σ σ' : kw_S} (h : kw_FM L σ σ') {j : Nat} (ha : 1000 + j ∉ L) : σ'.1 0 j = σ.1 0 j := h.2.1 j ha
theorem kw_nb {r : Int32} (h : r.toInt = 0 ∨ r.toInt = 1) : narrow .boolean (.int r) = .int r := by
  have e0 : (0 : Int32).toInt = 0 := rfl
  have e1 : (1 : Int32).toInt = 1 := rfl
  rcases h with h | h
  · have : r = 0 := Int32.toInt_inj.mp (h.trans e0.symm)
    subst this; rfl
  · have : r = 1 := Int32.toInt_inj.mp (h.trans e1.symm)
    subst this; rfl
theorem kw_hE : ∀ q ∈ kw_E0, q ∈ kw_E0 := fun _ h => h
def bX : kw_B := fun a j => match a with
  | 1 => (match j with | 0 => (40, 40) | _ => (-2147483648, 2147483647))
  | 2 => (match j with | 0 => (60, 60) | _ => (-2147483648, 2147483647))
  | 4 => (match j with | 3 => (0, 40) | _ => (-2147483648, 2147483647))
  | 5 => (match j with | 0 => (40, 40) | _ => (-2147483648, 2147483647))
  | 6 => (match j with | 2 => (0, 6) | _ => (-2147483648, 2147483647))
  | 7 => (match j with | 5 => (0, 1) | 6 => (0, 3) | _ => (-2147483648, 2147483647))
  | 13 => (-1, 40)
  | 15 => (-1, 60)
  | 16 => (match j with | 5 => (0, 6) | 6 => (0, 8) | _ => (-2147483648, 2147483647))
  | 17 => (match j with | 5 => (0, 6) | 6 => (0, 8) | _ => (-2147483648, 2147483647))
  | 21 => (-1, 40)
  | 52 => (match j with | 2 => (0, 6) | _ => (-2147483648, 2147483647))
  | 53 => (match j with | 2 => (0, 6) | _ => (-2147483648, 2147483647))
  | 54 => (match j with | 2 => (0, 6) | _ => (-2147483648, 2147483647))
  | _ => (-2147483648, 2147483647)
