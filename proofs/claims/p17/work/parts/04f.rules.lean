section KWR
variable {l : Launch} {d : Nat} {E : kw_E} {K : List kw_K1} {M : kw_M} {P : Option Value → kw_S → Prop} {pc : Nat} {lv : List (Nat × Value)} {st : List Value} {σ : kw_S}
/-- a field's link: the class ci's field j, as the class own names it at idx -/
def kw_lk (own : String) (idx ci j : Nat) : Prop := ∃ (C : String) (T : u_T) (N : Nat), vwCl[ci]? = some (C, T, N) ∧ j < N ∧ (∀ w ∈ u_ws C T N, w ∈ kw_ws) ∧ (T j).1 = C ∧ Cond.fieldLink own idx C (T j).2.1 (T j).2.2.1 ∈ kw_ws
/-- and it may be written -/
def kw_lkP (own : String) (idx ci j : Nat) (ty : FieldType) : Prop := ∃ (C : String) (T : u_T) (N : Nat) (ty0 : Nat → FieldType), vwCl[ci]? = some (C, T, N) ∧ j < N ∧ (∀ w ∈ u_ws C T N, w ∈ kw_ws) ∧ (T j).1 = C ∧ Cond.fieldLink own idx C (T j).2.1 (T j).2.2.1 ∈ kw_ws ∧ (∀ k, k < N → parseFieldDescriptor (T k).2.2.1 = some (ty0 k)) ∧ (∀ a, a < N → ∀ b, b < N → a ≠ b → (T a).2.1 ≠ (T b).2.1) ∧ (T j).2.2.2 = false ∧ parseFieldDescriptor (T j).2.2.1 = some ty
theorem kw_get {i idx a ci j : Nat} {fs : List Value} {t : Value} (hi : M.2[i]? = some (pc, .getfield idx, 3)) (hk : K[a]? = some (.inr (ci, fs))) (hf : fs[j]? = some t) (hl : kw_lk M.1.1 idx ci j) {v : Value} (hv : ∀ ad : Nat → Nat, kw_fv ad σ a j t = kw_rv ad v) (h : kw_AW l d E K M P (pc + 3) lv (v :: st) σ) : kw_AW l d E K M P pc lv (.ref a :: st) σ := by
  intro p e R s m args below meth c H locs cells slots Q ls G A Cx Sx Rx Fx
  obtain ⟨C, T, N, h1, h2, h3, h4, h5⟩ := hl
  refine va_get (D := G.2.1) (C := C) (T := T) (N := N) (v := kw_rv G.1 v) Cx.1 Cx.2.1 Cx.2.2.2.2.2.2.1 h3 Cx.2.2.2.2.2.1 Cx.2.2.2.2.2.2.2.1 Sx.1 a (kw_W_at hk) h1 j h2 (Cx.2.2.2.2.2.2.1 _ h5) (fun _ h9 => by rw [h4] at h9; exact h9) (by rw [kw_fill_get, hf, ← hv G.1]; rfl) (kw_dec Cx hi) (h p e R s m args below meth c H locs cells slots Q ls G A Cx Sx Rx Fx)
theorem kw_puti {i idx a ci j : Nat} {fs : List Value} {z x : Int32} {ty : FieldType} (hi : M.2[i]? = some (pc, .putfield idx, 3)) (hk : K[a]? = some (.inr (ci, fs))) (hf : fs[j]? = some (.int z)) (hl : kw_lkP M.1.1 idx ci j ty) (hn : narrow ty (.int x) = .int x) (hfit : fits ty (.int x) = true) (h : kw_AW l d E K M P (pc + 3) lv st (kw_ui σ a j x)) : kw_AW l d E K M P pc lv (.int x :: .ref a :: st) σ := by
  intro p e R s m args below meth c H locs cells slots Q ls G A Cx Sx Rx Fx
  obtain ⟨C, T, N, ty0, h1, h2, h3, h4, h5, h6, h7, h8, h9⟩ := hl
  refine va_put (D := G.2.1) (C := C) (T := T) (N := N) (v := .int x) (ty := ty) Cx.1 Cx.2.1 Cx.2.2.2.2.2.2.1 h3 ty0 h6 h7 Cx.2.2.2.2.2.1 Cx.2.2.2.2.2.2.2.1 Sx.1 Sx.2.1 Sx.2.2.1 a (kw_W_at hk) h1 j h2 (Cx.2.2.2.2.2.2.1 _ h5) (fun _ h9 => by rw [h4] at h9; exact h9) h8 h9 hn hfit (by have := (List.getElem?_eq_some_iff.mp hf).1; simp [kw_fill, this]) (kw_dec Cx hi) (fun H1 locs1 hP hD hS => ?_)
  rw [kw_W_pi hk hf] at hP hD
  exact h p e R s m args below meth c H1 locs1 cells slots Q ls G A Cx ⟨hP, hD, hS, Sx.2.2.2⟩ Rx Fx
theorem kw_putl {i idx a ci j : Nat} {fs : List Value} {z x : Int64} (hi : M.2[i]? = some (pc, .putfield idx, 3)) (hk : K[a]? = some (.inr (ci, fs))) (hf : fs[j]? = some (.long z)) (hl : kw_lkP M.1.1 idx ci j .long) (h : kw_AW l d E K M P (pc + 3) lv st (kw_ul σ a j x)) : kw_AW l d E K M P pc lv (.long x :: .ref a :: st) σ := by
  intro p e R s m args below meth c H locs cells slots Q ls G A Cx Sx Rx Fx
  obtain ⟨C, T, N, ty0, h1, h2, h3, h4, h5, h6, h7, h8, h9⟩ := hl
  refine va_put (D := G.2.1) (C := C) (T := T) (N := N) (v := .long x) (ty := .long) Cx.1 Cx.2.1 Cx.2.2.2.2.2.2.1 h3 ty0 h6 h7 Cx.2.2.2.2.2.1 Cx.2.2.2.2.2.2.2.1 Sx.1 Sx.2.1 Sx.2.2.1 a (kw_W_at hk) h1 j h2 (Cx.2.2.2.2.2.2.1 _ h5) (fun _ h9 => by rw [h4] at h9; exact h9) h8 h9 rfl rfl (by have := (List.getElem?_eq_some_iff.mp hf).1; simp [kw_fill, this]) (kw_dec Cx hi) (fun H1 locs1 hP hD hS => ?_)
  rw [kw_W_pl hk hf] at hP hD
  exact h p e R s m args below meth c H1 locs1 cells slots Q ls G A Cx ⟨hP, hD, hS, Sx.2.2.2⟩ Rx Fx
theorem kw_iald {i a n : Nat} {x : Int32} (hi : M.2[i]? = some (pc, .iaload, 1)) (hk : K[a]? = some (.inl (.inl n))) (h0 : 0 ≤ x.toInt) (h1 : x.toInt < n) (h : ∀ v : Int32, v = σ.1 a x.toNatClampNeg → kw_AW l d E K M P (pc + 1) lv (.int v :: st) σ) : kw_AW l d E K M P pc lv (.int x :: .ref a :: st) σ := by
  intro p e R s m args below meth c H locs cells slots Q ls G A Cx Sx Rx Fx
  exact va_iald (D := G.2.1) (n := n) (f := σ.1 a) Cx.1 Cx.2.1 Cx.2.2.2.2.2.2.2.1 Sx.1 a 0 (kw_W_at hk) rfl (kw_in h0 h1) (kw_dec Cx hi) (h _ rfl p e R s m args below meth c H locs cells slots Q ls G A Cx Sx Rx Fx)
theorem kw_iast {i a n : Nat} {x y : Int32} (hi : M.2[i]? = some (pc, .iastore, 1)) (hk : K[a]? = some (.inl (.inl n))) (h0 : 0 ≤ x.toInt) (h1 : x.toInt < n) (h : kw_AW l d E K M P (pc + 1) lv st (kw_ui σ a x.toNatClampNeg y)) : kw_AW l d E K M P pc lv (.int y :: .int x :: .ref a :: st) σ := by
  intro p e R s m args below meth c H locs cells slots Q ls G A Cx Sx Rx Fx
  refine va_iast (D := G.2.1) (n := n) (f := σ.1 a) Cx.1 Cx.2.1 Cx.2.2.2.2.2.2.2.1 Sx.1 Sx.2.1 Sx.2.2.1 a 0 (kw_W_at hk) rfl (kw_in h0 h1) (kw_dec Cx hi) (fun H1 locs1 hP hD hS => ?_)
  rw [kw_W_ui hk] at hP hD
  exact h p e R s m args below meth c H1 locs1 cells slots Q ls G A Cx ⟨hP, hD, hS, Sx.2.2.2⟩ Rx Fx
theorem kw_alen {i a n : Nat} {v : Int32} (hi : M.2[i]? = some (pc, .arraylength, 1)) (hk : K[a]? = some (.inl (.inl n))) (hv : Int32.ofNat n = v) (h : kw_AW l d E K M P (pc + 1) lv (.int v :: st) σ) : kw_AW l d E K M P pc lv (.ref a :: st) σ := by
  intro p e R s m args below meth c H locs cells slots Q ls G A Cx Sx Rx Fx
  exact va_alen (D := G.2.1) Cx.1 Cx.2.1 Cx.2.2.2.2.2.2.2.1 Sx.1 a 0 (x := (n, .inl (σ.1 a))) (kw_W_at hk) rfl hv (kw_dec Cx hi) (h p e R s m args below meth c H locs cells slots Q ls G A Cx Sx Rx Fx)
theorem kw_aald {i a t : Nat} {rs : List Nat} {x : Int32} {b : Nat} (hi : M.2[i]? = some (pc, .aaload, 1)) (hk : K[a]? = some (.inl (.inr (t, rs)))) (ht : t = 1 ∨ t = 2) (h0 : 0 ≤ x.toInt) (hb : rs[x.toNatClampNeg]? = some b) (h : kw_AW l d E K M P (pc + 1) lv (.ref b :: st) σ) : kw_AW l d E K M P pc lv (.int x :: .ref a :: st) σ := by
  intro p e R s m args below meth c H locs cells slots Q ls G A Cx Sx Rx Fx
  have hlt : x.toNatClampNeg < rs.length := (List.getElem?_eq_some_iff.mp hb).1
  have hin : vp_in x rs.length := kw_in h0 (by have := kw_clampI h0; omega)
  have ee : va_rf ((fun j => (rs[j]?).map G.1) x.toNatClampNeg) = .ref (G.1 b) := by simp [hb, va_rf]
  have hh := h p e R s m args below meth c H locs cells slots Q ls G A Cx Sx Rx Fx
  have hp := Sx.1 a _ (kw_W_at hk)
  rcases ht with rfl | rfl
  · refine W.aald (v := .ref (G.1 b)) (ty := .array .int) Cx.1 Cx.2.1 hp ((Cx.2.2.2.2.2.2.2.1.2 1 _ rfl).1 rs.length (fun j => va_rf ((rs[j]?).map G.1))) rfl (fun q => by cases q) (by show ¬ (x < 0 ∨ (arrV _ _ _).slots.size ≤ _); rw [arrV_size]; exact hin) (by show (arrV _ _ _).slots[_]? = _; rw [arrV_read _ _ hlt]; exact congrArg some ee) rfl rfl (kw_dec Cx hi) hh
  · refine W.aald (v := .ref (G.1 b)) (ty := .object "WashSails$Chart") Cx.1 Cx.2.1 hp ((Cx.2.2.2.2.2.2.2.1.2 2 _ rfl).1 rs.length (fun j => va_rf ((rs[j]?).map G.1))) rfl (fun q => by cases q) (by show ¬ (x < 0 ∨ (arrV _ _ _).slots.size ≤ _); rw [arrV_size]; exact hin) (by show (arrV _ _ _).slots[_]? = _; rw [arrV_read _ _ hlt]; exact congrArg some ee) rfl rfl (kw_dec Cx hi) hh
/-- a row that nobody writes -/
theorem kw_tld {i k a n : Nat} {f : Nat → Int32} {x : Int32} (hi : M.2[i]? = some (pc, .iaload, 1)) (hE : E[k]? = some (a, n, f)) (h0 : 0 ≤ x.toInt) (h1 : x.toInt < n) (h : ∀ v : Int32, v = f x.toNatClampNeg → kw_AW l d E K M P (pc + 1) lv (.int v :: st) σ) : kw_AW l d E K M P pc lv (.int x :: .ref a :: st) σ := by
  intro p e R s m args below meth c H locs cells slots Q ls G A Cx Sx Rx Fx
  exact va_ti Cx.1 Cx.2.1 (Cx.2.2.2.2.2.2.2.2.2.1.2.2.1 _ (List.mem_of_getElem? hE)) Sx.2.2.1 (kw_in h0 h1) rfl (kw_dec Cx hi) (h _ rfl p e R s m args below meth c H locs cells slots Q ls G A Cx Sx Rx Fx)
theorem kw_tlen {i k a n : Nat} {f : Nat → Int32} {v : Int32} (hi : M.2[i]? = some (pc, .arraylength, 1)) (hE : E[k]? = some (a, n, f)) (hv : Int32.ofNat n = v) (h : kw_AW l d E K M P (pc + 1) lv (.int v :: st) σ) : kw_AW l d E K M P pc lv (.ref a :: st) σ := by
  intro p e R s m args below meth c H locs cells slots Q ls G A Cx Sx Rx Fx
  exact va_tlen Cx.1 Cx.2.1 (Cx.2.2.2.2.2.2.2.2.2.1.2.2.1 _ (List.mem_of_getElem? hE)) Sx.2.2.1 hv (kw_dec Cx hi) (h p e R s m args below meth c H locs cells slots Q ls G A Cx Sx Rx Fx)
theorem kw_getsL {i idx : Nat} (hi : M.2[i]? = some (pc, .getstatic idx, 3)) (ho : M.1.1 = "WashSails$Reader" ∧ idx = 72) (h : kw_AW l d E K M P (pc + 3) lv (.ref 1000 :: st) σ) : kw_AW l d E K M P pc lv st σ := by
  intro p e R s m args below meth c H locs cells slots Q ls G A Cx Sx Rx Fx
  obtain ⟨ho, rfl⟩ := ho
  have hown := Cx.2.2.2.2.2.1
  rw [ho] at hown
  exact va_getsN Cx.1 Cx.2.1 Cx.2.2.2.2.2.2.2.2.2.1.1 Sx.2.2.1 hown (va_Nw.use rfl Cx.2.2.2.2.2.2.2.2.2.1.2.2.2.2) (fun _ h9 => h9) (kw_dec Cx hi) (h p e R s m args below meth c H locs cells slots Q ls G A Cx Sx Rx Fx)
theorem kw_getsK {i idx : Nat} (hi : M.2[i]? = some (pc, .getstatic idx, 3)) (hl : Cond.fieldLink M.1.1 idx "WashSails" "KIND_ABOVE" "[I" ∈ kw_ws) (h : kw_AW l d E K M P (pc + 3) lv (.ref 1001 :: st) σ) : kw_AW l d E K M P pc lv st σ := by
  intro p e R s m args below meth c H locs cells slots Q ls G A Cx Sx Rx Fx
  exact va_gets Cx.1 Cx.2.1 Cx.2.2.2.2.2.2.2.2.2.1.2.1 Sx.2.2.1 Cx.2.2.2.2.2.1 (Cx.2.2.2.2.2.2.1 _ hl) (fun _ h9 => h9) (kw_dec Cx hi) (h p e R s m args below meth c H locs cells slots Q ls G A Cx Sx Rx Fx)

end KWR
