section
/-! ===== the class's cells, and the bounds that its numbers keep ===== -/
def KX : List kw_K1 := [.inr (7, [.ref 1, .ref 2, .ref 3, .ref 4, .ref 5, .ref 6, .ref 7, .ref 8, .ref 9, .ref 10, .ref 11]), .inr (3, [.int 0, .ref 12, .ref 13]), .inr (3, [.int 0, .ref 14, .ref 15]), .inr (2, [.ref 16, .int 0]), .inr (5, [.ref 17, .ref 18, .ref 19, .int 0, .int 0, .int 0, .int 0, .int 0]), .inr (3, [.int 0, .ref 20, .ref 21]), .inr (0, [.ref 22, .ref 23, .int 0, .int 0]), .inr (6, [.ref 24, .int 0, .ref 25, .ref 26, .ref 27, .int 0, .int 0, .int 0]), .inr (4, [.ref 28, .int 0, .int 0, .long 0, .long 0]), .inl (.inl 6), .inl (.inl 6), .inl (.inl 6), .inl (.inr (1, [29, 30, 31, 32, 33, 34])), .inl (.inl 6), .inl (.inr (1, [35, 36, 37, 38])), .inl (.inl 4), .inr (1, [.ref 39, .ref 40, .ref 41, .ref 42, .ref 43, .int 0, .int 0]), .inr (1, [.ref 44, .ref 45, .ref 46, .ref 47, .ref 48, .int 0, .int 0]), .inl (.inl 40), .inl (.inl 6), .inl (.inr (1, [49, 50, 51])), .inl (.inl 3), .inl (.inl 64), .inl (.inl 64), .inl (.inl 3), .inl (.inr (2, [52, 53, 54])), .inl (.inl 4), .inl (.inl 3), .inl (.inl 6), .inl (.inl 40), .inl (.inl 40), .inl (.inl 40), .inl (.inl 40), .inl (.inl 40), .inl (.inl 40), .inl (.inl 60), .inl (.inl 60), .inl (.inl 60), .inl (.inl 60), .inl (.inl 6), .inl (.inl 6), .inl (.inl 6), .inl (.inl 6), .inl (.inl 8), .inl (.inl 6), .inl (.inl 6), .inl (.inl 6), .inl (.inl 6), .inl (.inl 8), .inl (.inl 40), .inl (.inl 40), .inl (.inl 40), .inr (0, [.ref 55, .ref 56, .int 0, .int 0]), .inr (0, [.ref 57, .ref 58, .int 0, .int 0]), .inr (0, [.ref 59, .ref 60, .int 0, .int 0]), .inl (.inl 64), .inl (.inl 64), .inl (.inl 64), .inl (.inl 64), .inl (.inl 64), .inl (.inl 64)]
def KM : List kw_K1 := [.inr (8, [.int 0, .ref 1, .int 0, .long 0, .long 0, .ref 2, .ref 3, .ref 4, .ref 5, .ref 6, .int 0, .int 0, .ref 7, .ref 8, .ref 9, .ref 10, .ref 11, .int 0, .int 0, .int 0, .ref 12, .ref 13, .int 0, .int 0, .int 0, .int 0, .ref 14, .int 0, .ref 15, .ref 16, .ref 17, .ref 18, .ref 19, .ref 20, .ref 21, .ref 22, .long 0]), .inl (.inl 6), .inl (.inl 6), .inl (.inl 240), .inl (.inl 40), .inl (.inl 4), .inl (.inl 240), .inl (.inl 8), .inl (.inl 6), .inl (.inl 6), .inl (.inl 6), .inl (.inl 6), .inl (.inl 8), .inl (.inl 24), .inl (.inl 6), .inl (.inl 400), .inl (.inl 3), .inl (.inl 1233), .inl (.inl 192), .inl (.inl 192), .inl (.inl 3), .inl (.inl 64), .inl (.inl 64)]
abbrev kw_B : Type := Nat → Nat → Int × Int
def kw_I (b : kw_B) (σ : kw_S) : Prop := ∀ a j : Nat, (b a j).1 ≤ (σ.1 a j).toInt ∧ (σ.1 a j).toInt ≤ (b a j).2
theorem kw_I_ui {b : kw_B} {σ : kw_S} (h : kw_I b σ) {a i : Nat} {x : Int32} (h1 : (b a i).1 ≤ x.toInt) (h2 : x.toInt ≤ (b a i).2) : kw_I b (kw_ui σ a i x) := by
  intro c j
  by_cases hc : c = a
  · subst hc
    by_cases hj : j = i
    · subst hj
      simp only [kw_ui, upd, if_true]
      exact ⟨h1, h2⟩
    · simp only [kw_ui, upd, if_true, hj, if_false]
      exact h c j
  · simp only [kw_ui, hc, if_false]
    exact h c j
theorem kw_I_ul {b : kw_B} {σ : kw_S} (h : kw_I b σ) (a i : Nat) (x : Int64) : kw_I b (kw_ul σ a i x) := h
theorem kw_I_ua {b : kw_B} {σ : kw_S} (h : kw_I b σ) {a : Nat} {f : Nat → Int32} (h1 : ∀ j, (b a j).1 ≤ (f j).toInt ∧ (f j).toInt ≤ (b a j).2) : kw_I b (kw_ua σ a f) := by
  intro c j
  by_cases hc : c = a
  · subst hc
    simp only [kw_ua, if_true]
    exact h1 j
  · simp only [kw_ua, hc, if_false]
    exact h c j
/-- what isn't of the list stays -/
def kw_F (L : List Nat) (σ σ' : kw_S) : Prop := ∀ a : Nat, a ∉ L → σ'.1 a = σ.1 a ∧ σ'.2 a = σ.2 a
theorem kw_F.rf {L : List Nat} {σ : kw_S} : kw_F L σ σ := fun _ _ => ⟨rfl, rfl⟩
theorem kw_F.tr {L L' : List Nat} {σ σ1 σ2 : kw_S} (h : kw_F L σ σ1) (h' : kw_F L' σ1 σ2) (hL : ∀ a ∈ L', a ∈ L) : kw_F L σ σ2 := fun a ha => ⟨(h' a (fun q => ha (hL a q))).1.trans (h a ha).1, (h' a (fun q => ha (hL a q))).2.trans (h a ha).2⟩
theorem kw_F_ui {L : List Nat} {σ σ' : kw_S} (h : kw_F L σ σ') {a i : Nat} {x : Int32} (ha : a ∈ L) : kw_F L σ (kw_ui σ' a i x) := by
  intro c hc
  have : ¬ c = a := fun q => hc (q ▸ ha)
  refine ⟨?_, (h c hc).2⟩
  simp only [kw_ui, this, if_false]
  exact (h c hc).1
theorem kw_F_ul {L : List Nat} {σ σ' : kw_S} (h : kw_F L σ σ') {a i : Nat} {x : Int64} (ha : a ∈ L) : kw_F L σ (kw_ul σ' a i x) := by
  intro c hc
  have : ¬ c = a := fun q => hc (q ▸ ha)
  refine ⟨(h c hc).1, ?_⟩
  simp only [kw_ul, this, if_false]
  exact (h c hc).2
theorem kw_F_ua {L : List Nat} {σ σ' : kw_S} (h : kw_F L σ σ') {a : Nat} {f : Nat → Int32} (ha : a ∈ L) : kw_F L σ (kw_ua σ' a f) := by
  intro c hc
  have : ¬ c = a := fun q => hc (q ▸ ha)
  refine ⟨?_, (h c hc).2⟩
  simp only [kw_ua, this, if_false]
  exact (h c hc).1
theorem kw_F.at {L : List Nat} {σ σ' : kw_S} (h : kw_F L σ σ') {a j : Nat} (ha : a ∉ L) : σ'.1 a j = σ.1 a j := by rw [(h a ha).1]
/-- the same of the reference: its own fields by 1000 + place (ints), 2000 + place (longs) -/
def kw_FM (L : List Nat) (σ σ' : kw_S) : Prop := (∀ a : Nat, a ≠ 0 → a ∉ L → σ'.1 a = σ.1 a) ∧ (∀ j : Nat, 1000 + j ∉ L → σ'.1 0 j = σ.1 0 j) ∧ ∀ j : Nat, 2000 + j ∉ L → σ'.2 0 j = σ.2 0 j
theorem kw_FM.rf {L : List Nat} {σ : kw_S} : kw_FM L σ σ := ⟨fun _ _ _ => rfl, fun _ _ => rfl, fun _ _ => rfl⟩
theorem kw_FM.tr {L L' : List Nat} {σ σ1 σ2 : kw_S} (h : kw_FM L σ σ1) (h' : kw_FM L' σ1 σ2) (hL : ∀ a ∈ L', a ∈ L) : kw_FM L σ σ2 :=
  ⟨fun a h0 ha => (h'.1 a h0 (fun q => ha (hL a q))).trans (h.1 a h0 ha), fun j hj => (h'.2.1 j (fun q => hj (hL _ q))).trans (h.2.1 j hj), fun j hj => (h'.2.2 j (fun q => hj (hL _ q))).trans (h.2.2 j hj)⟩
theorem kw_FM_ui0 {L : List Nat} {σ σ' : kw_S} (h : kw_FM L σ σ') {i : Nat} {x : Int32} (ha : 1000 + i ∈ L) : kw_FM L σ (kw_ui σ' 0 i x) := by
  refine ⟨fun a h0 hL => ?_, fun j hj => ?_, h.2.2⟩
  · simp only [kw_ui, h0, if_false]
    exact h.1 a h0 hL
  · have : ¬ j = i := fun q => hj (q ▸ ha)
    simp only [kw_ui, if_true, upd, this, if_false]
    exact h.2.1 j hj
theorem kw_FM_ul0 {L : List Nat} {σ σ' : kw_S} (h : kw_FM L σ σ') {i : Nat} {x : Int64} (ha : 2000 + i ∈ L) : kw_FM L σ (kw_ul σ' 0 i x) := by
  refine ⟨h.1, h.2.1, fun j hj => ?_⟩
  have : ¬ j = i := fun q => hj (q ▸ ha)
  simp only [kw_ul, if_true, vp_updL, this, if_false]
  exact h.2.2 j hj
theorem kw_FM_ui {L : List Nat} {σ σ' : kw_S} (h : kw_FM L σ σ') {a i : Nat} {x : Int32} (h0 : a ≠ 0) (ha : a ∈ L) : kw_FM L σ (kw_ui σ' a i x) := by
  refine ⟨fun c c0 hc => ?_, fun j hj => ?_, h.2.2⟩
  · have : ¬ c = a := fun q => hc (q ▸ ha)
    simp only [kw_ui, this, if_false]
    exact h.1 c c0 hc
  · have : ¬ 0 = a := fun q => h0 q.symm
    simp only [kw_ui, this, if_false]
    exact h.2.1 j hj
theorem kw_FM.at0 {L : List Nat} {σ σ' : kw_S} (h : kw_FM L σ σ') {j : Nat} (ha : 1000 + j ∉ L) : σ'.1 0 j = σ.1 0 j := h.2.1 j ha
theorem kw_nb {r : Int32} (h : r.toInt = 0 ∨ r.toInt = 1) : narrow .boolean (.int r) = .int r := by
  have e0 : (0 : Int32).toInt = 0 := rfl
  have e1 : (1 : Int32).toInt = 1 := rfl
  rcases h with h | h
  · have : r = 0 := Int32.toInt_inj.mp (h.trans e0.symm)
    subst this; rfl
  · have : r = 1 := Int32.toInt_inj.mp (h.trans e1.symm)
    subst this; rfl
theorem kw_hE : ∀ q ∈ kw_E0, q ∈ kw_E0 := fun _ h => h
def bX : kw_B := fun a j => match a with
  | 1 => (match j with | 0 => (40, 40) | _ => (-2147483648, 2147483647))
  | 2 => (match j with | 0 => (60, 60) | _ => (-2147483648, 2147483647))
  | 4 => (match j with | 3 => (0, 40) | _ => (-2147483648, 2147483647))
  | 5 => (match j with | 0 => (40, 40) | _ => (-2147483648, 2147483647))
  | 6 => (match j with | 2 => (0, 6) | _ => (-2147483648, 2147483647))
  | 7 => (match j with | 5 => (0, 1) | 6 => (0, 3) | _ => (-2147483648, 2147483647))
  | 13 => (-1, 40)
  | 15 => (-1, 60)
  | 16 => (match j with | 5 => (0, 6) | 6 => (0, 8) | _ => (-2147483648, 2147483647))
  | 17 => (match j with | 5 => (0, 6) | 6 => (0, 8) | _ => (-2147483648, 2147483647))
  | 21 => (-1, 40)
  | 52 => (match j with | 2 => (0, 6) | _ => (-2147483648, 2147483647))
  | 53 => (match j with | 2 => (0, 6) | _ => (-2147483648, 2147483647))
  | 54 => (match j with | 2 => (0, 6) | _ => (-2147483648, 2147483647))
  | _ => (-2147483648, 2147483647)
end
section
theorem kw_sub {l : Launch} {d : Nat} {E : kw_E} {K : List kw_K1} {M : kw_M} {P : Option Value → kw_S → Prop} {pc : Nat} {lv lv' : List (Nat × Value)} {st : List Value} {σ : kw_S} (ks : List Nat) (hl : lv_pick lv ks = lv') (h : kw_AW l d E K M P pc lv' st σ) : kw_AW l d E K M P pc lv st σ := by
  intro p e R s m args below meth c H locs cells slots Q ls G A Cx Sx Rx Fx
  refine h p e R s m args below meth c H locs cells slots Q ls G A Cx ⟨Sx.1, Sx.2.1, Sx.2.2.1, lv_sub Sx.2.2.2 ks ?_⟩ Rx Fx
  rw [← hl]
  simp only [lv_pick, List.getElem?_map, List.map_filterMap]
theorem kw_iinc' {l : Launch} {d : Nat} {E : kw_E} {K : List kw_K1} {M : kw_M} {P : Option Value → kw_S → Prop} {pc : Nat} {lv : List (Nat × Value)} {st : List Value} {σ : kw_S} {i n k : Nat} {by_ : Int} {x : Int32} (lv' : Int32 → List (Nat × Value)) (hi : M.2[i]? = some (pc, .iinc n by_, 3)) (hk : lv[k]? = some (n, .int x)) (hn : n < M.1.2.2.2.1) (hb : (Int32.ofInt by_).toInt = by_) (hl : ∀ z : Int32, (n, .int z) :: lv.filter (fun q => !(q.1 == n) && !(q.1 + 1 == n && q.2.category == 2)) = lv' z) (h : ∀ z : Int32, z = x + Int32.ofInt by_ → z.toInt = (x.toInt + by_ + 2147483648) % 4294967296 - 2147483648 → kw_AW l d E K M P (pc + 3) (lv' z) st σ) : kw_AW l d E K M P pc lv st σ :=
  kw_iinc hi hk hn hb (fun z h1 h2 => by rw [hl z]; exact h z h1 h2)
theorem kw_remI (x y z : Int32) (h : z = x - x / y * y) : 0 ≤ x.toInt → 0 < y.toInt → 0 ≤ z.toInt ∧ z.toInt < y.toInt := by
  intro hx hy
  have e0 : (0 : Int32).toInt = 0 := rfl
  have hx' : ¬ x < 0 := fun q => by have := Int32.lt_iff_toInt_lt.mp q; omega
  have hy' : ¬ y < 0 := fun q => by have := Int32.lt_iff_toInt_lt.mp q; omega
  obtain ⟨a, ha, rfl⟩ := nI_of hx'
  obtain ⟨d, hd, rfl⟩ := nI_of hy'
  rw [nI_toInt hd] at hy ⊢
  have hd0 : 0 < d := by omega
  rw [pk_rem ha hd0 hd] at h
  subst h
  have hm := Nat.mod_lt a hd0
  rw [nI_toInt (by omega)]
  omega
theorem kw_mmax {l : Launch} {d : Nat} {E : kw_E} {K : List kw_K1} {M : kw_M} {P : Option Value → kw_S → Prop} {pc : Nat} {lv : List (Nat × Value)} {st : List Value} {σ : kw_S} {i idx : Nat} {x y : Int32} (hi : M.2[i]? = some (pc, .invokestatic idx, 3)) (hl : Cond.methodLink M.1.1 idx Lib.Math.max.name ∈ kw_ws ∧ Cond.static Lib.Math.max.name ∈ kw_ws ∧ Cond.initialized "java/lang/Math" ∈ kw_ws ∧ Cond.code Lib.Math.max.name Lib.Math.max.code 2 (some .int) ∈ kw_ws) (hd : 0 < d) (hc : (st.map fun v => v.category).sum ≤ 8)
    (h : ∀ z : Int32, z = (if x < y then y else x) → (z.toInt = x.toInt ∧ y.toInt ≤ x.toInt ∨ z.toInt = y.toInt ∧ x.toInt < y.toInt) → kw_AW l d E K M P (pc + 3) lv (.int z :: st) σ) : kw_AW l d E K M P pc lv (.int y :: .int x :: st) σ := by
  intro p e R s m args below meth c H locs cells slots Q ls G A Cx Sx Rx Fx
  have hts := Cx.2.2.2.2.2.2.1
  refine va_mmax Cx.1 Cx.2.1 (Cx.2.2.2.2.1.trans Sx.2.2.2.1.symm) Cx.2.2.2.2.2.1 (hts _ hl.1) (hts _ hl.2.1) (hts _ hl.2.2.1) (hts _ hl.2.2.2) (by omega) (by rw [kw_catsum]; omega) Rx.2.2.1 Rx.2.2.2 (kw_dec Cx hi) (h _ rfl ?_ p e R s m args below meth c H locs cells slots Q ls G A Cx Sx Rx Fx)
  by_cases q : x < y
  · rw [if_pos q]; exact Or.inr ⟨rfl, kw_ltI q⟩
  · rw [if_neg q]; exact Or.inl ⟨rfl, kw_nltI q⟩
theorem kw_mmin {l : Launch} {d : Nat} {E : kw_E} {K : List kw_K1} {M : kw_M} {P : Option Value → kw_S → Prop} {pc : Nat} {lv : List (Nat × Value)} {st : List Value} {σ : kw_S} {i idx : Nat} {x y : Int32} (hi : M.2[i]? = some (pc, .invokestatic idx, 3)) (hl : Cond.methodLink M.1.1 idx Lib.Math.min.name ∈ kw_ws ∧ Cond.static Lib.Math.min.name ∈ kw_ws ∧ Cond.initialized "java/lang/Math" ∈ kw_ws ∧ Cond.code Lib.Math.min.name Lib.Math.min.code 2 (some .int) ∈ kw_ws) (hd : 0 < d) (hc : (st.map fun v => v.category).sum ≤ 8)
    (h : ∀ z : Int32, z = (if y < x then y else x) → (z.toInt = x.toInt ∧ x.toInt ≤ y.toInt ∨ z.toInt = y.toInt ∧ y.toInt < x.toInt) → kw_AW l d E K M P (pc + 3) lv (.int z :: st) σ) : kw_AW l d E K M P pc lv (.int y :: .int x :: st) σ := by
  intro p e R s m args below meth c H locs cells slots Q ls G A Cx Sx Rx Fx
  have hts := Cx.2.2.2.2.2.2.1
  refine va_mmin Cx.1 Cx.2.1 (Cx.2.2.2.2.1.trans Sx.2.2.2.1.symm) Cx.2.2.2.2.2.1 (hts _ hl.1) (hts _ hl.2.1) (hts _ hl.2.2.1) (hts _ hl.2.2.2) (by omega) (by rw [kw_catsum]; omega) Rx.2.2.1 Rx.2.2.2 (kw_dec Cx hi) (h _ rfl ?_ p e R s m args below meth c H locs cells slots Q ls G A Cx Sx Rx Fx)
  by_cases q : y < x
  · rw [if_pos q]; exact Or.inr ⟨rfl, kw_ltI q⟩
  · rw [if_neg q]; exact Or.inl ⟨rfl, kw_nltI q⟩
theorem kw_mabsl {l : Launch} {d : Nat} {E : kw_E} {K : List kw_K1} {M : kw_M} {P : Option Value → kw_S → Prop} {pc : Nat} {lv : List (Nat × Value)} {st : List Value} {σ : kw_S} {i idx : Nat} {x : Int64} (hi : M.2[i]? = some (pc, .invokestatic idx, 3)) (hl : Cond.methodLink M.1.1 idx Lib.MathLoose.abs_long.x ∈ kw_ws ∧ Cond.static Lib.MathLoose.abs_long.x ∈ kw_ws ∧ Cond.initialized "java/lang/Math" ∈ kw_ws ∧ Cond.code Lib.MathLoose.abs_long.x Lib.MathLoose.abs_long.code 2 (some .long) ∈ kw_ws) (hd : 0 < d) (hc : (st.map fun v => v.category).sum ≤ 8)
    (h : ∀ z : Int64, z = (if 0 < x then x else -x) → kw_AW l d E K M P (pc + 3) lv (.long z :: st) σ) : kw_AW l d E K M P pc lv (.long x :: st) σ := by
  intro p e R s m args below meth c H locs cells slots Q ls G A Cx Sx Rx Fx
  have hts := Cx.2.2.2.2.2.2.1
  exact va_mabs_long Cx.1 Cx.2.1 (Cx.2.2.2.2.1.trans Sx.2.2.2.1.symm) Cx.2.2.2.2.2.1 (hts _ hl.1) (hts _ hl.2.1) (hts _ hl.2.2.1) (hts _ hl.2.2.2) (by omega) (by rw [kw_catsum]; omega) Rx.2.2.1 Rx.2.2.2 (kw_dec Cx hi) (h _ rfl p e R s m args below meth c H locs cells slots Q ls G A Cx Sx Rx Fx)
theorem jX7_352 : Cond.methodLink RX7 352 Lib.Math.max.name ∈ kw_ws ∧ Cond.static Lib.Math.max.name ∈ kw_ws ∧ Cond.initialized "java/lang/Math" ∈ kw_ws ∧ Cond.code Lib.Math.max.name Lib.Math.max.code 2 (some .int) ∈ kw_ws := ⟨kmX7_352, wTJ9_max_7cf53, wNJ9, wCJ9_max_7cf53⟩
theorem jX1_56 : Cond.methodLink RX1 56 Lib.Math.max.name ∈ kw_ws ∧ Cond.static Lib.Math.max.name ∈ kw_ws ∧ Cond.initialized "java/lang/Math" ∈ kw_ws ∧ Cond.code Lib.Math.max.name Lib.Math.max.code 2 (some .int) ∈ kw_ws := ⟨kmX1_56, wTJ9_max_7cf53, wNJ9, wCJ9_max_7cf53⟩
theorem jX7_357 : Cond.methodLink RX7 357 Lib.Math.min.name ∈ kw_ws ∧ Cond.static Lib.Math.min.name ∈ kw_ws ∧ Cond.initialized "java/lang/Math" ∈ kw_ws ∧ Cond.code Lib.Math.min.name Lib.Math.min.code 2 (some .int) ∈ kw_ws := ⟨kmX7_357, wTJ9_min_7cf53, wNJ9, wCJ9_min_7cf53⟩
theorem jX6_28 : Cond.methodLink RX6 28 Lib.Math.min.name ∈ kw_ws ∧ Cond.static Lib.Math.min.name ∈ kw_ws ∧ Cond.initialized "java/lang/Math" ∈ kw_ws ∧ Cond.code Lib.Math.min.name Lib.Math.min.code 2 (some .int) ∈ kw_ws := ⟨kmX6_28, wTJ9_min_7cf53, wNJ9, wCJ9_min_7cf53⟩
theorem jX4_29 : Cond.methodLink RX4 29 Lib.MathLoose.abs_long.x ∈ kw_ws ∧ Cond.static Lib.MathLoose.abs_long.x ∈ kw_ws ∧ Cond.initialized "java/lang/Math" ∈ kw_ws ∧ Cond.code Lib.MathLoose.abs_long.x Lib.MathLoose.abs_long.code 2 (some .long) ∈ kw_ws := ⟨kmX4_29, wTJ9_abs_067f4, wNJ9, wCJ9_abs_067f4⟩
theorem kw_shl1 (z x : Int32) (h : z = x <<< (1 &&& 31)) : 0 ≤ x.toInt → x.toInt ≤ 64 → z.toInt = 2 * x.toInt := by
  intro h0 h1
  have e0 : (0 : Int32).toInt = 0 := rfl
  have hx : ¬ x < 0 := fun q => by have := Int32.lt_iff_toInt_lt.mp q; omega
  obtain ⟨a, ha, rfl⟩ := nI_of hx
  rw [nI_toInt ha] at h1 ⊢
  subst h
  have key : ∀ a, a < 65 → (nI a <<< (1 &&& 31)).toInt = 2 * (a : Int) := by decide +kernel
  exact key a (by omega)
def kw_pw (i s : Int) : Prop := s = 2 ^ i.toNat
theorem kw_pw0 : kw_pw 0 1 := rfl
theorem kw_pwS {i s i' s' : Int} (h : kw_pw i s) (h0 : 0 ≤ i) (h1 : i' = i + 1) (h2 : s' = 2 * s) : kw_pw i' s' := by
  unfold kw_pw at h ⊢
  subst h1; subst h2; subst h
  rw [show (i + 1).toNat = i.toNat + 1 by omega, Int.pow_succ]
  omega
theorem kw_pwB {i s : Int} (h : kw_pw i s) (h0 : 0 ≤ i) (h1 : i ≤ 6) : 1 ≤ s ∧ s ≤ 64 := by
  unfold kw_pw at h
  subst h
  have key : ∀ n : Nat, n < 7 → 1 ≤ (2 : Int) ^ n ∧ (2 : Int) ^ n ≤ 64 := by decide +kernel
  exact key i.toNat (by omega)
end
section
theorem arX0_draw : (parseMethodDescriptor mX0_draw.1.2.1.desc).map (fun d => d.parameters.length) = some 2 := by decide +kernel
theorem arX0_milesOf : (parseMethodDescriptor mX0_milesOf.1.2.1.desc).map (fun d => d.parameters.length) = some 1 := by decide +kernel
theorem arX0_turnBy : (parseMethodDescriptor mX0_turnBy.1.2.1.desc).map (fun d => d.parameters.length) = some 1 := by decide +kernel
theorem arX0_fits : (parseMethodDescriptor mX0_fits.1.2.1.desc).map (fun d => d.parameters.length) = some 3 := by decide +kernel
theorem arX1_copyFrom : (parseMethodDescriptor mX1_copyFrom.1.2.1.desc).map (fun d => d.parameters.length) = some 1 := by decide +kernel
theorem arX1_hasLine : (parseMethodDescriptor mX1_hasLine.1.2.1.desc).map (fun d => d.parameters.length) = some 1 := by decide +kernel
theorem arX1_allLines : (parseMethodDescriptor mX1_allLines.1.2.1.desc).map (fun d => d.parameters.length) = some 0 := by decide +kernel
theorem arX1_hasSet : (parseMethodDescriptor mX1_hasSet.1.2.1.desc).map (fun d => d.parameters.length) = some 1 := by decide +kernel
theorem arX1_windAt : (parseMethodDescriptor mX1_windAt.1.2.1.desc).map (fun d => d.parameters.length) = some 1 := by decide +kernel
theorem arX1_pullOf : (parseMethodDescriptor mX1_pullOf.1.2.1.desc).map (fun d => d.parameters.length) = some 2 := by decide +kernel
theorem arX1_milesOf : (parseMethodDescriptor mX1_milesOf.1.2.1.desc).map (fun d => d.parameters.length) = some 2 := by decide +kernel
theorem arX1_turnOf : (parseMethodDescriptor mX1_turnOf.1.2.1.desc).map (fun d => d.parameters.length) = some 2 := by decide +kernel
theorem arX1_mostMilesOf : (parseMethodDescriptor mX1_mostMilesOf.1.2.1.desc).map (fun d => d.parameters.length) = some 2 := by decide +kernel
theorem arX1_linenOf : (parseMethodDescriptor mX1_linenOf.1.2.1.desc).map (fun d => d.parameters.length) = some 1 := by decide +kernel
theorem arX1_howManyAre : (parseMethodDescriptor mX1_howManyAre.1.2.1.desc).map (fun d => d.parameters.length) = some 1 := by decide +kernel
theorem arX1_othersNoWider : (parseMethodDescriptor mX1_othersNoWider.1.2.1.desc).map (fun d => d.parameters.length) = some 1 := by decide +kernel
theorem arX2_faultOf : (parseMethodDescriptor mX2_faultOf.1.2.1.desc).map (fun d => d.parameters.length) = some 2 := by decide +kernel
theorem arX2_skipBlanks : (parseMethodDescriptor mX2_skipBlanks.1.2.1.desc).map (fun d => d.parameters.length) = some 2 := by decide +kernel
theorem arX2_readWinds : (parseMethodDescriptor mX2_readWinds.1.2.1.desc).map (fun d => d.parameters.length) = some 2 := by decide +kernel
theorem arX2_readLine : (parseMethodDescriptor mX2_readLine.1.2.1.desc).map (fun d => d.parameters.length) = some 2 := by decide +kernel
theorem arX2_readFigure : (parseMethodDescriptor mX2_readFigure.1.2.1.desc).map (fun d => d.parameters.length) = some 4 := by decide +kernel
theorem arX2_kindOf : (parseMethodDescriptor mX2_kindOf.1.2.1.desc).map (fun d => d.parameters.length) = some 1 := by decide +kernel
theorem arX3_has : (parseMethodDescriptor mX3_has.1.2.1.desc).map (fun d => d.parameters.length) = some 1 := by decide +kernel
theorem arX3_isMissing : (parseMethodDescriptor mX3_isMissing.1.2.1.desc).map (fun d => d.parameters.length) = some 1 := by decide +kernel
theorem arX3_sizeOf : (parseMethodDescriptor mX3_sizeOf.1.2.1.desc).map (fun d => d.parameters.length) = some 1 := by decide +kernel
theorem arX3_howMany : (parseMethodDescriptor mX3_howMany.1.2.1.desc).map (fun d => d.parameters.length) = some 0 := by decide +kernel
theorem arX3_hasPlaces : (parseMethodDescriptor mX3_hasPlaces.1.2.1.desc).map (fun d => d.parameters.length) = some 3 := by decide +kernel
theorem arX3_findingAt : (parseMethodDescriptor mX3_findingAt.1.2.1.desc).map (fun d => d.parameters.length) = some 2 := by decide +kernel
theorem arX3_valueAt : (parseMethodDescriptor mX3_valueAt.1.2.1.desc).map (fun d => d.parameters.length) = some 2 := by decide +kernel
theorem arX3_change : (parseMethodDescriptor mX3_change.1.2.1.desc).map (fun d => d.parameters.length) = some 3 := by decide +kernel
theorem arX3_make : (parseMethodDescriptor mX3_make.1.2.1.desc).map (fun d => d.parameters.length) = some 3 := by decide +kernel
theorem arX3_drop : (parseMethodDescriptor mX3_drop.1.2.1.desc).map (fun d => d.parameters.length) = some 1 := by decide +kernel
theorem arX3_move : (parseMethodDescriptor mX3_move.1.2.1.desc).map (fun d => d.parameters.length) = some 5 := by decide +kernel
theorem arX3_fold : (parseMethodDescriptor mX3_fold.1.2.1.desc).map (fun d => d.parameters.length) = some 1 := by decide +kernel
theorem arX4_answer : (parseMethodDescriptor mX4_answer.1.2.1.desc).map (fun d => d.parameters.length) = some 1 := by decide +kernel
theorem arX4_refuse : (parseMethodDescriptor mX4_refuse.1.2.1.desc).map (fun d => d.parameters.length) = some 1 := by decide +kernel
theorem arX4_tellWhole : (parseMethodDescriptor mX4_tellWhole.1.2.1.desc).map (fun d => d.parameters.length) = some 1 := by decide +kernel
theorem arX4_tellShare : (parseMethodDescriptor mX4_tellShare.1.2.1.desc).map (fun d => d.parameters.length) = some 2 := by decide +kernel
theorem arX4_commonDivisor : (parseMethodDescriptor mX4_commonDivisor.1.2.1.desc).map (fun d => d.parameters.length) = some 2 := by decide +kernel
theorem arX5_isEmpty : (parseMethodDescriptor mX5_isEmpty.1.2.1.desc).map (fun d => d.parameters.length) = some 0 := by decide +kernel
theorem arX5_isHung : (parseMethodDescriptor mX5_isHung.1.2.1.desc).map (fun d => d.parameters.length) = some 1 := by decide +kernel
theorem arX5_hasRoomFor : (parseMethodDescriptor mX5_hasRoomFor.1.2.1.desc).map (fun d => d.parameters.length) = some 1 := by decide +kernel
theorem arX5_windNow : (parseMethodDescriptor mX5_windNow.1.2.1.desc).map (fun d => d.parameters.length) = some 0 := by decide +kernel
theorem arX5_windAhead : (parseMethodDescriptor mX5_windAhead.1.2.1.desc).map (fun d => d.parameters.length) = some 1 := by decide +kernel
theorem arX5_allWet : (parseMethodDescriptor mX5_allWet.1.2.1.desc).map (fun d => d.parameters.length) = some 0 := by decide +kernel
theorem arX5_hoursToStorm : (parseMethodDescriptor mX5_hoursToStorm.1.2.1.desc).map (fun d => d.parameters.length) = some 0 := by decide +kernel
theorem arX5_trait : (parseMethodDescriptor mX5_trait.1.2.1.desc).map (fun d => d.parameters.length) = some 2 := by decide +kernel
theorem arX5_act : (parseMethodDescriptor mX5_act.1.2.1.desc).map (fun d => d.parameters.length) = some 1 := by decide +kernel
theorem arX5_passHour : (parseMethodDescriptor mX5_passHour.1.2.1.desc).map (fun d => d.parameters.length) = some 0 := by decide +kernel
theorem arX5_replay : (parseMethodDescriptor mX5_replay.1.2.1.desc).map (fun d => d.parameters.length) = some 1 := by decide +kernel
theorem arX6_find : (parseMethodDescriptor mX6_find.1.2.1.desc).map (fun d => d.parameters.length) = some 3 := by decide +kernel
theorem arX6_sailFrom : (parseMethodDescriptor mX6_sailFrom.1.2.1.desc).map (fun d => d.parameters.length) = some 3 := by decide +kernel
theorem arX7_row : (parseMethodDescriptor mX7_row.1.2.1.desc).map (fun d => d.parameters.length) = some 2 := by decide +kernel
theorem arX7_lay : (parseMethodDescriptor mX7_lay.1.2.1.desc).map (fun d => d.parameters.length) = some 3 := by decide +kernel
theorem arX7_at : (parseMethodDescriptor mX7_at.1.2.1.desc).map (fun d => d.parameters.length) = some 2 := by decide +kernel
theorem arX7_tear : (parseMethodDescriptor mX7_tear.1.2.1.desc).map (fun d => d.parameters.length) = some 1 := by decide +kernel
theorem arX7_copy : (parseMethodDescriptor mX7_copy.1.2.1.desc).map (fun d => d.parameters.length) = some 5 := by decide +kernel
theorem arX7_mean : (parseMethodDescriptor mX7_mean.1.2.1.desc).map (fun d => d.parameters.length) = some 1 := by decide +kernel
theorem arX7_text : (parseMethodDescriptor mX7_text.1.2.1.desc).map (fun d => d.parameters.length) = some 2 := by decide +kernel
theorem arX7_put : (parseMethodDescriptor mX7_put.1.2.1.desc).map (fun d => d.parameters.length) = some 3 := by decide +kernel
theorem arX7_fault : (parseMethodDescriptor mX7_fault.1.2.1.desc).map (fun d => d.parameters.length) = some 1 := by decide +kernel
theorem arX7_town : (parseMethodDescriptor mX7_town.1.2.1.desc).map (fun d => d.parameters.length) = some 1 := by decide +kernel
theorem arX7_line : (parseMethodDescriptor mX7_line.1.2.1.desc).map (fun d => d.parameters.length) = some 2 := by decide +kernel
theorem arX7_mark : (parseMethodDescriptor mX7_mark.1.2.1.desc).map (fun d => d.parameters.length) = some 2 := by decide +kernel
theorem arX7_wind : (parseMethodDescriptor mX7_wind.1.2.1.desc).map (fun d => d.parameters.length) = some 1 := by decide +kernel
theorem arX7_hang : (parseMethodDescriptor mX7_hang.1.2.1.desc).map (fun d => d.parameters.length) = some 1 := by decide +kernel
theorem arX7_take : (parseMethodDescriptor mX7_take.1.2.1.desc).map (fun d => d.parameters.length) = some 1 := by decide +kernel
theorem arX7_hour : (parseMethodDescriptor mX7_hour.1.2.1.desc).map (fun d => d.parameters.length) = some 0 := by decide +kernel
theorem arX7_undo : (parseMethodDescriptor mX7_undo.1.2.1.desc).map (fun d => d.parameters.length) = some 1 := by decide +kernel
theorem arX7_keep : (parseMethodDescriptor mX7_keep.1.2.1.desc).map (fun d => d.parameters.length) = some 1 := by decide +kernel
theorem arX7_on : (parseMethodDescriptor mX7_on.1.2.1.desc).map (fun d => d.parameters.length) = some 1 := by decide +kernel
theorem arX7_goes : (parseMethodDescriptor mX7_goes.1.2.1.desc).map (fun d => d.parameters.length) = some 1 := by decide +kernel
theorem arX7_even : (parseMethodDescriptor mX7_even.1.2.1.desc).map (fun d => d.parameters.length) = some 1 := by decide +kernel
theorem arX7_fast : (parseMethodDescriptor mX7_fast.1.2.1.desc).map (fun d => d.parameters.length) = some 1 := by decide +kernel
theorem arX7_wet : (parseMethodDescriptor mX7_wet.1.2.1.desc).map (fun d => d.parameters.length) = some 0 := by decide +kernel
theorem arX7_sail : (parseMethodDescriptor mX7_sail.1.2.1.desc).map (fun d => d.parameters.length) = some 1 := by decide +kernel
theorem arX7_dry : (parseMethodDescriptor mX7_dry.1.2.1.desc).map (fun d => d.parameters.length) = some 1 := by decide +kernel
theorem arX7_far : (parseMethodDescriptor mX7_far.1.2.1.desc).map (fun d => d.parameters.length) = some 3 := by decide +kernel
theorem arX7_soon : (parseMethodDescriptor mX7_soon.1.2.1.desc).map (fun d => d.parameters.length) = some 1 := by decide +kernel
theorem arX7_least : (parseMethodDescriptor mX7_least.1.2.1.desc).map (fun d => d.parameters.length) = some 2 := by decide +kernel
theorem arX7_ways : (parseMethodDescriptor mX7_ways.1.2.1.desc).map (fun d => d.parameters.length) = some 2 := by decide +kernel
theorem arX7_kinds : (parseMethodDescriptor mX7_kinds.1.2.1.desc).map (fun d => d.parameters.length) = some 2 := by decide +kernel
theorem arX7_areas : (parseMethodDescriptor mX7_areas.1.2.1.desc).map (fun d => d.parameters.length) = some 2 := by decide +kernel
theorem arX7_rival : (parseMethodDescriptor mX7_rival.1.2.1.desc).map (fun d => d.parameters.length) = some 1 := by decide +kernel
theorem arX7_mid : (parseMethodDescriptor mX7_mid.1.2.1.desc).map (fun d => d.parameters.length) = some 2 := by decide +kernel
theorem arX7_odds : (parseMethodDescriptor mX7_odds.1.2.1.desc).map (fun d => d.parameters.length) = some 3 := by decide +kernel
theorem arX7_lots : (parseMethodDescriptor mX7_lots.1.2.1.desc).map (fun d => d.parameters.length) = some 2 := by decide +kernel
theorem arX7_asked : (parseMethodDescriptor mX7_asked.1.2.1.desc).map (fun d => d.parameters.length) = some 0 := by decide +kernel
theorem arX7_upper : (parseMethodDescriptor mX7_upper.1.2.1.desc).map (fun d => d.parameters.length) = some 0 := by decide +kernel
theorem arX7_lower : (parseMethodDescriptor mX7_lower.1.2.1.desc).map (fun d => d.parameters.length) = some 0 := by decide +kernel
theorem arX7_count : (parseMethodDescriptor mX7_count.1.2.1.desc).map (fun d => d.parameters.length) = some 1 := by decide +kernel
theorem arX7_miles : (parseMethodDescriptor mX7_miles.1.2.1.desc).map (fun d => d.parameters.length) = some 0 := by decide +kernel
theorem arX7_finding : (parseMethodDescriptor mX7_finding.1.2.1.desc).map (fun d => d.parameters.length) = some 0 := by decide +kernel
theorem arX7_findings : (parseMethodDescriptor mX7_findings.1.2.1.desc).map (fun d => d.parameters.length) = some 1 := by decide +kernel
theorem arX7_digest : (parseMethodDescriptor mX7_digest.1.2.1.desc).map (fun d => d.parameters.length) = some 0 := by decide +kernel
theorem arX7_makeOn : (parseMethodDescriptor mX7_makeOn.1.2.1.desc).map (fun d => d.parameters.length) = some 4 := by decide +kernel
theorem arX7_planRefusal : (parseMethodDescriptor mX7_planRefusal.1.2.1.desc).map (fun d => d.parameters.length) = some 1 := by decide +kernel
theorem arX7_pairsRefusal : (parseMethodDescriptor mX7_pairsRefusal.1.2.1.desc).map (fun d => d.parameters.length) = some 2 := by decide +kernel
theorem arX7_pulledSo : (parseMethodDescriptor mX7_pulledSo.1.2.1.desc).map (fun d => d.parameters.length) = some 3 := by decide +kernel
theorem arX7_drySet : (parseMethodDescriptor mX7_drySet.1.2.1.desc).map (fun d => d.parameters.length) = some 1 := by decide +kernel
theorem arX7_mostMilesBehind : (parseMethodDescriptor mX7_mostMilesBehind.1.2.1.desc).map (fun d => d.parameters.length) = some 2 := by decide +kernel
theorem arX7_foresee : (parseMethodDescriptor mX7_foresee.1.2.1.desc).map (fun d => d.parameters.length) = some 1 := by decide +kernel
theorem arX7_milesByGusts : (parseMethodDescriptor mX7_milesByGusts.1.2.1.desc).map (fun d => d.parameters.length) = some 2 := by decide +kernel
theorem arX7_weightOfGusts : (parseMethodDescriptor mX7_weightOfGusts.1.2.1.desc).map (fun d => d.parameters.length) = some 3 := by decide +kernel
theorem arX7_play : (parseMethodDescriptor mX7_play.1.2.1.desc).map (fun d => d.parameters.length) = some 3 := by decide +kernel
theorem arX7_isA : (parseMethodDescriptor mX7_isA.1.2.1.desc).map (fun d => d.parameters.length) = some 2 := by decide +kernel
theorem arX7_pull : (parseMethodDescriptor mX7_pull.1.2.1.desc).map (fun d => d.parameters.length) = some 3 := by decide +kernel
theorem arX7_weather : (parseMethodDescriptor mX7_weather.1.2.1.desc).map (fun d => d.parameters.length) = some 3 := by decide +kernel
theorem arX8_in : (parseMethodDescriptor mX8_in.1.2.1.desc).map (fun d => d.parameters.length) = some 3 := by decide +kernel
theorem arX8_meet : (parseMethodDescriptor mX8_meet.1.2.1.desc).map (fun d => d.parameters.length) = some 1 := by decide +kernel
theorem arX8_ask : (parseMethodDescriptor mX8_ask.1.2.1.desc).map (fun d => d.parameters.length) = some 2 := by decide +kernel
theorem arX8_has : (parseMethodDescriptor mX8_has.1.2.1.desc).map (fun d => d.parameters.length) = some 2 := by decide +kernel
theorem arX8_greater : (parseMethodDescriptor mX8_greater.1.2.1.desc).map (fun d => d.parameters.length) = some 2 := by decide +kernel
theorem arX8_part : (parseMethodDescriptor mX8_part.1.2.1.desc).map (fun d => d.parameters.length) = some 2 := by decide +kernel
theorem arX8_isRow : (parseMethodDescriptor mX8_isRow.1.2.1.desc).map (fun d => d.parameters.length) = some 1 := by decide +kernel
theorem arX8_isText : (parseMethodDescriptor mX8_isText.1.2.1.desc).map (fun d => d.parameters.length) = some 1 := by decide +kernel
theorem arX8_askedRow : (parseMethodDescriptor mX8_askedRow.1.2.1.desc).map (fun d => d.parameters.length) = some 1 := by decide +kernel
theorem arX8_askedText : (parseMethodDescriptor mX8_askedText.1.2.1.desc).map (fun d => d.parameters.length) = some 1 := by decide +kernel
theorem arX8_rowAt : (parseMethodDescriptor mX8_rowAt.1.2.1.desc).map (fun d => d.parameters.length) = some 2 := by decide +kernel
theorem arX8_setRow : (parseMethodDescriptor mX8_setRow.1.2.1.desc).map (fun d => d.parameters.length) = some 3 := by decide +kernel
theorem arX8_row : (parseMethodDescriptor mX8_row.1.2.1.desc).map (fun d => d.parameters.length) = some 2 := by decide +kernel
theorem arX8_at : (parseMethodDescriptor mX8_at.1.2.1.desc).map (fun d => d.parameters.length) = some 2 := by decide +kernel
theorem arX8_lay : (parseMethodDescriptor mX8_lay.1.2.1.desc).map (fun d => d.parameters.length) = some 3 := by decide +kernel
theorem arX8_tear : (parseMethodDescriptor mX8_tear.1.2.1.desc).map (fun d => d.parameters.length) = some 1 := by decide +kernel
theorem arX8_copy : (parseMethodDescriptor mX8_copy.1.2.1.desc).map (fun d => d.parameters.length) = some 5 := by decide +kernel
theorem arX8_mean : (parseMethodDescriptor mX8_mean.1.2.1.desc).map (fun d => d.parameters.length) = some 1 := by decide +kernel
theorem arX8_text : (parseMethodDescriptor mX8_text.1.2.1.desc).map (fun d => d.parameters.length) = some 2 := by decide +kernel
theorem arX8_put : (parseMethodDescriptor mX8_put.1.2.1.desc).map (fun d => d.parameters.length) = some 3 := by decide +kernel
theorem arX8_here : (parseMethodDescriptor mX8_here.1.2.1.desc).map (fun d => d.parameters.length) = some 1 := by decide +kernel
theorem arX8_skip : (parseMethodDescriptor mX8_skip.1.2.1.desc).map (fun d => d.parameters.length) = some 1 := by decide +kernel
theorem arX8_figure : (parseMethodDescriptor mX8_figure.1.2.1.desc).map (fun d => d.parameters.length) = some 4 := by decide +kernel
theorem arX8_readsWinds : (parseMethodDescriptor mX8_readsWinds.1.2.1.desc).map (fun d => d.parameters.length) = some 1 := by decide +kernel
theorem arX8_kindBy : (parseMethodDescriptor mX8_kindBy.1.2.1.desc).map (fun d => d.parameters.length) = some 1 := by decide +kernel
theorem arX8_readsLine : (parseMethodDescriptor mX8_readsLine.1.2.1.desc).map (fun d => d.parameters.length) = some 1 := by decide +kernel
theorem arX8_readsTown : (parseMethodDescriptor mX8_readsTown.1.2.1.desc).map (fun d => d.parameters.length) = some 1 := by decide +kernel
theorem arX8_goesOn : (parseMethodDescriptor mX8_goesOn.1.2.1.desc).map (fun d => d.parameters.length) = some 1 := by decide +kernel
theorem arX8_fault : (parseMethodDescriptor mX8_fault.1.2.1.desc).map (fun d => d.parameters.length) = some 1 := by decide +kernel
theorem arX8_town : (parseMethodDescriptor mX8_town.1.2.1.desc).map (fun d => d.parameters.length) = some 1 := by decide +kernel
theorem arX8_isLine : (parseMethodDescriptor mX8_isLine.1.2.1.desc).map (fun d => d.parameters.length) = some 1 := by decide +kernel
theorem arX8_isSet : (parseMethodDescriptor mX8_isSet.1.2.1.desc).map (fun d => d.parameters.length) = some 1 := by decide +kernel
theorem arX8_windAt : (parseMethodDescriptor mX8_windAt.1.2.1.desc).map (fun d => d.parameters.length) = some 1 := by decide +kernel
theorem arX8_pullBy : (parseMethodDescriptor mX8_pullBy.1.2.1.desc).map (fun d => d.parameters.length) = some 3 := by decide +kernel
theorem arX8_pullOf : (parseMethodDescriptor mX8_pullOf.1.2.1.desc).map (fun d => d.parameters.length) = some 2 := by decide +kernel
theorem arX8_milesBy : (parseMethodDescriptor mX8_milesBy.1.2.1.desc).map (fun d => d.parameters.length) = some 2 := by decide +kernel
theorem arX8_turnBy : (parseMethodDescriptor mX8_turnBy.1.2.1.desc).map (fun d => d.parameters.length) = some 2 := by decide +kernel
theorem arX8_linenOf : (parseMethodDescriptor mX8_linenOf.1.2.1.desc).map (fun d => d.parameters.length) = some 1 := by decide +kernel
theorem arX8_bits : (parseMethodDescriptor mX8_bits.1.2.1.desc).map (fun d => d.parameters.length) = some 1 := by decide +kernel
theorem arX8_write : (parseMethodDescriptor mX8_write.1.2.1.desc).map (fun d => d.parameters.length) = some 2 := by decide +kernel
theorem arX8_read : (parseMethodDescriptor mX8_read.1.2.1.desc).map (fun d => d.parameters.length) = some 2 := by decide +kernel
theorem arX8_note : (parseMethodDescriptor mX8_note.1.2.1.desc).map (fun d => d.parameters.length) = some 0 := by decide +kernel
theorem arX8_wetBehind : (parseMethodDescriptor mX8_wetBehind.1.2.1.desc).map (fun d => d.parameters.length) = some 2 := by decide +kernel
theorem arX8_pass : (parseMethodDescriptor mX8_pass.1.2.1.desc).map (fun d => d.parameters.length) = some 1 := by decide +kernel
theorem arX8_turnLine : (parseMethodDescriptor mX8_turnLine.1.2.1.desc).map (fun d => d.parameters.length) = some 1 := by decide +kernel
theorem arX8_hang : (parseMethodDescriptor mX8_hang.1.2.1.desc).map (fun d => d.parameters.length) = some 1 := by decide +kernel
theorem arX8_take : (parseMethodDescriptor mX8_take.1.2.1.desc).map (fun d => d.parameters.length) = some 1 := by decide +kernel
theorem arX8_hour : (parseMethodDescriptor mX8_hour.1.2.1.desc).map (fun d => d.parameters.length) = some 0 := by decide +kernel
theorem arX8_undo : (parseMethodDescriptor mX8_undo.1.2.1.desc).map (fun d => d.parameters.length) = some 1 := by decide +kernel
theorem arX8_keep : (parseMethodDescriptor mX8_keep.1.2.1.desc).map (fun d => d.parameters.length) = some 1 := by decide +kernel
theorem arX8_on : (parseMethodDescriptor mX8_on.1.2.1.desc).map (fun d => d.parameters.length) = some 1 := by decide +kernel
theorem arX8_lineOf : (parseMethodDescriptor mX8_lineOf.1.2.1.desc).map (fun d => d.parameters.length) = some 2 := by decide +kernel
theorem arX8_line : (parseMethodDescriptor mX8_line.1.2.1.desc).map (fun d => d.parameters.length) = some 2 := by decide +kernel
theorem arX8_isA : (parseMethodDescriptor mX8_isA.1.2.1.desc).map (fun d => d.parameters.length) = some 2 := by decide +kernel
theorem arX8_howMany : (parseMethodDescriptor mX8_howMany.1.2.1.desc).map (fun d => d.parameters.length) = some 1 := by decide +kernel
theorem arX8_hoursTill : (parseMethodDescriptor mX8_hoursTill.1.2.1.desc).map (fun d => d.parameters.length) = some 0 := by decide +kernel
theorem arX8_lesserOnes : (parseMethodDescriptor mX8_lesserOnes.1.2.1.desc).map (fun d => d.parameters.length) = some 1 := by decide +kernel
theorem arX8_mark : (parseMethodDescriptor mX8_mark.1.2.1.desc).map (fun d => d.parameters.length) = some 2 := by decide +kernel
theorem arX8_wind : (parseMethodDescriptor mX8_wind.1.2.1.desc).map (fun d => d.parameters.length) = some 1 := by decide +kernel
theorem arX8_goes : (parseMethodDescriptor mX8_goes.1.2.1.desc).map (fun d => d.parameters.length) = some 1 := by decide +kernel
theorem arX8_even : (parseMethodDescriptor mX8_even.1.2.1.desc).map (fun d => d.parameters.length) = some 1 := by decide +kernel
theorem arX8_fast : (parseMethodDescriptor mX8_fast.1.2.1.desc).map (fun d => d.parameters.length) = some 1 := by decide +kernel
theorem arX8_wetOfAll : (parseMethodDescriptor mX8_wetOfAll.1.2.1.desc).map (fun d => d.parameters.length) = some 0 := by decide +kernel
theorem arX8_wet : (parseMethodDescriptor mX8_wet.1.2.1.desc).map (fun d => d.parameters.length) = some 0 := by decide +kernel
theorem arX8_askedPlan : (parseMethodDescriptor mX8_askedPlan.1.2.1.desc).map (fun d => d.parameters.length) = some 1 := by decide +kernel
theorem arX8_sail : (parseMethodDescriptor mX8_sail.1.2.1.desc).map (fun d => d.parameters.length) = some 1 := by decide +kernel
theorem arX8_dry : (parseMethodDescriptor mX8_dry.1.2.1.desc).map (fun d => d.parameters.length) = some 1 := by decide +kernel
theorem arX8_setHours : (parseMethodDescriptor mX8_setHours.1.2.1.desc).map (fun d => d.parameters.length) = some 0 := by decide +kernel
theorem arX8_isTurn : (parseMethodDescriptor mX8_isTurn.1.2.1.desc).map (fun d => d.parameters.length) = some 2 := by decide +kernel
theorem arX8_farBy : (parseMethodDescriptor mX8_farBy.1.2.1.desc).map (fun d => d.parameters.length) = some 2 := by decide +kernel
theorem arX8_far : (parseMethodDescriptor mX8_far.1.2.1.desc).map (fun d => d.parameters.length) = some 3 := by decide +kernel
theorem arX8_mostOf : (parseMethodDescriptor mX8_mostOf.1.2.1.desc).map (fun d => d.parameters.length) = some 2 := by decide +kernel
theorem arX8_soon : (parseMethodDescriptor mX8_soon.1.2.1.desc).map (fun d => d.parameters.length) = some 1 := by decide +kernel
theorem arX8_least : (parseMethodDescriptor mX8_least.1.2.1.desc).map (fun d => d.parameters.length) = some 2 := by decide +kernel
theorem arX8_ways : (parseMethodDescriptor mX8_ways.1.2.1.desc).map (fun d => d.parameters.length) = some 2 := by decide +kernel
theorem arX8_askedPulls : (parseMethodDescriptor mX8_askedPulls.1.2.1.desc).map (fun d => d.parameters.length) = some 2 := by decide +kernel
theorem arX8_pullsSo : (parseMethodDescriptor mX8_pullsSo.1.2.1.desc).map (fun d => d.parameters.length) = some 3 := by decide +kernel
theorem arX8_kinds : (parseMethodDescriptor mX8_kinds.1.2.1.desc).map (fun d => d.parameters.length) = some 2 := by decide +kernel
theorem arX8_areas : (parseMethodDescriptor mX8_areas.1.2.1.desc).map (fun d => d.parameters.length) = some 2 := by decide +kernel
theorem arX8_rival : (parseMethodDescriptor mX8_rival.1.2.1.desc).map (fun d => d.parameters.length) = some 1 := by decide +kernel
theorem arX8_power : (parseMethodDescriptor mX8_power.1.2.1.desc).map (fun d => d.parameters.length) = some 2 := by decide +kernel
theorem arX8_gustMiles : (parseMethodDescriptor mX8_gustMiles.1.2.1.desc).map (fun d => d.parameters.length) = some 2 := by decide +kernel
theorem arX8_weightOf : (parseMethodDescriptor mX8_weightOf.1.2.1.desc).map (fun d => d.parameters.length) = some 3 := by decide +kernel
theorem arX8_mid : (parseMethodDescriptor mX8_mid.1.2.1.desc).map (fun d => d.parameters.length) = some 2 := by decide +kernel
theorem arX8_odds : (parseMethodDescriptor mX8_odds.1.2.1.desc).map (fun d => d.parameters.length) = some 3 := by decide +kernel
theorem arX8_lots : (parseMethodDescriptor mX8_lots.1.2.1.desc).map (fun d => d.parameters.length) = some 2 := by decide +kernel
theorem arX8_asked : (parseMethodDescriptor mX8_asked.1.2.1.desc).map (fun d => d.parameters.length) = some 0 := by decide +kernel
theorem arX8_upper : (parseMethodDescriptor mX8_upper.1.2.1.desc).map (fun d => d.parameters.length) = some 0 := by decide +kernel
theorem arX8_lower : (parseMethodDescriptor mX8_lower.1.2.1.desc).map (fun d => d.parameters.length) = some 0 := by decide +kernel
theorem arX8_there : (parseMethodDescriptor mX8_there.1.2.1.desc).map (fun d => d.parameters.length) = some 1 := by decide +kernel
theorem arX8_tells : (parseMethodDescriptor mX8_tells.1.2.1.desc).map (fun d => d.parameters.length) = some 1 := by decide +kernel
theorem arX8_count : (parseMethodDescriptor mX8_count.1.2.1.desc).map (fun d => d.parameters.length) = some 1 := by decide +kernel
theorem arX8_miles : (parseMethodDescriptor mX8_miles.1.2.1.desc).map (fun d => d.parameters.length) = some 0 := by decide +kernel
theorem arX8_finding : (parseMethodDescriptor mX8_finding.1.2.1.desc).map (fun d => d.parameters.length) = some 0 := by decide +kernel
theorem arX8_findings : (parseMethodDescriptor mX8_findings.1.2.1.desc).map (fun d => d.parameters.length) = some 1 := by decide +kernel
theorem arX8_mix : (parseMethodDescriptor mX8_mix.1.2.1.desc).map (fun d => d.parameters.length) = some 1 := by decide +kernel
theorem arX8_mixTown : (parseMethodDescriptor mX8_mixTown.1.2.1.desc).map (fun d => d.parameters.length) = some 0 := by decide +kernel
theorem arX8_digest : (parseMethodDescriptor mX8_digest.1.2.1.desc).map (fun d => d.parameters.length) = some 0 := by decide +kernel
theorem arJ6_bitCount_0f7a4 : (parseMethodDescriptor mJ6_bitCount_0f7a4.1.2.1.desc).map (fun d => d.parameters.length) = some 1 := by decide +kernel
theorem arJ9_abs_067f4 : (parseMethodDescriptor mJ9_abs_067f4.1.2.1.desc).map (fun d => d.parameters.length) = some 1 := by decide +kernel
theorem arJ9_max_7cf53 : (parseMethodDescriptor mJ9_max_7cf53.1.2.1.desc).map (fun d => d.parameters.length) = some 2 := by decide +kernel
theorem arJ9_min_7cf53 : (parseMethodDescriptor mJ9_min_7cf53.1.2.1.desc).map (fun d => d.parameters.length) = some 2 := by decide +kernel
theorem arJ7_fill_53178 : (parseMethodDescriptor mJ7_fill_53178.1.2.1.desc).map (fun d => d.parameters.length) = some 2 := by decide +kernel
end
section
/-! ===== a method's function: bindings, branches, one by one ===== -/
def kf_l {α β : Type} (v : α) (k : α → β) : β := k v
def kf_b {α β : Type} (p : α × kw_S) (k : α → kw_S → β) : β := k p.1 p.2
theorem kf_le {α β : Type} {v z : α} {k : α → β} {t : β} (e : z = v) (h : kf_l v k = t) : k z = t := by subst e; exact h
theorem kf_be {α β : Type} {p : α × kw_S} {z : α} {s : kw_S} {k : α → kw_S → β} {t : β} (e : (z, s) = p) (h : kf_b p k = t) : k z s = t := by subst e; exact h
theorem kf_p {β : Type} {c : Prop} {i : Decidable c} {a b t : β} (h : c) (e : @ite β c i a b = t) : a = t := by rw [if_pos h] at e; exact e
theorem kf_n {β : Type} {c : Prop} {i : Decidable c} {a b t : β} (h : ¬ c) (e : @ite β c i a b = t) : b = t := by rw [if_neg h] at e; exact e
theorem kf_nl {β : Type} {x y : Int} {i : Decidable (x < y)} {a b t : β} (h : y ≤ x) (e : @ite β (x < y) i a b = t) : b = t := by rw [if_neg (Int.not_lt.mpr h)] at e; exact e
theorem kf_st {β : Type} {a b t : β} (e : a = b) (h : a = t) : b = t := e.symm.trans h
end
