section
/-! ===== the law's world: the class's cells and the reference's, side by side ===== -/
def kw_shK (n : Nat) (k : kw_K1) : kw_K1 := match k with
  | .inl (.inl m) => .inl (.inl m)
  | .inl (.inr (t, rs)) => .inl (.inr (t, rs.map (fun b => n + b)))
  | .inr (ci, fs) => .inr (ci, fs.map (kw_rv (fun b => n + b)))
def kw_sh (n : Nat) (σ : kw_S) : kw_S := (fun a => σ.1 (n + a), fun a => σ.2 (n + a))
def kw_shG (n : Nat) (G : kw_G) : kw_G := (fun a => if a < 1000 then G.1 (n + a) else G.1 a, G.2)
def kw_lowV (v : Value) : Bool := match v with
  | .ref b => decide (b < 1000)
  | _ => true
def kw_low (k : kw_K1) : Bool := match k with
  | .inl (.inl _) => true
  | .inl (.inr (_, rs)) => rs.all (fun b => decide (b < 1000))
  | .inr (_, fs) => fs.all kw_lowV
theorem kw_cell_sh {n : Nat} {G : kw_G} {σ : kw_S} {a : Nat} {k : kw_K1} (hk : kw_low k = true) : kw_cell G σ (n + a) (kw_shK n k) = kw_cell (kw_shG n G) (kw_sh n σ) a k := by
  rcases k with (m | ⟨t, rs⟩) | ⟨ci, fs⟩
  · rfl
  · have e : (fun j : Nat => ((rs.map (fun b => n + b))[j]?).map G.1) = fun j : Nat => (rs[j]?).map (kw_shG n G).1 := by
      funext j
      rw [List.getElem?_map]
      cases h : rs[j]? with
      | none => rfl
      | some b =>
        have hb := List.all_eq_true.mp hk b (List.mem_of_getElem? h)
        have hb' : b < 1000 := of_decide_eq_true hb
        simp [kw_shG, hb']
    show Sum.inl (_, (rs.map _).length, _) = Sum.inl (_, rs.length, _)
    rw [List.length_map, e]
    rfl
  · have e : kw_fill G.1 σ (n + a) (fs.map (kw_rv (fun b => n + b))) = kw_fill (kw_shG n G).1 (kw_sh n σ) a fs := by
      apply List.ext_getElem?
      intro j
      rw [kw_fill_get, kw_fill_get, List.getElem?_map]
      cases h : fs[j]? with
      | none => rfl
      | some v =>
        have hb := List.all_eq_true.mp hk v (List.mem_of_getElem? h)
        cases v with
        | ref b =>
          have hb' : b < 1000 := of_decide_eq_true hb
          simp [kw_rv, kw_fv, kw_shG, hb']
        | _ => rfl
    show Sum.inr (ci, _) = Sum.inr (ci, _)
    rw [e]
def KJ : List kw_K1 := KX ++ KM.map (kw_shK 61)
theorem kw_KXl : KX.length = 61 := by decide +kernel
theorem kw_KMl : KM.length = 23 := by decide +kernel
theorem kw_KMlow : ∀ k ∈ KM, kw_low k = true := by decide +kernel
theorem kw_KJX {k : Nat} (h : k < 61) : KJ[k]? = KX[k]? := List.getElem?_append_left (by rw [kw_KXl]; exact h)
theorem kw_KJM (k : Nat) : KJ[61 + k]? = (KM[k]?).map (kw_shK 61) := by
  unfold KJ
  rw [List.getElem?_append_right (by rw [kw_KXl]; omega), kw_KXl, List.getElem?_map]
  congr 2
  omega
theorem kw_WX {G : kw_G} {σ : kw_S} {k : Nat} {q : Nat × va_E} (h : (kw_W G KX σ)[k]? = some q) : k < 61 ∧ (kw_W G KJ σ)[k]? = some q := by
  have hk : k < 61 := by
    rw [kw_W_get] at h
    cases h1 : KX[k]? with
    | none => rw [h1] at h; cases h
    | some c => rw [← kw_KXl]; exact (List.getElem?_eq_some_iff.mp h1).1
  refine ⟨hk, ?_⟩
  rw [kw_W_get, kw_KJX hk, ← kw_W_get]
  exact h
theorem kw_WM {G : kw_G} {σ : kw_S} {k : Nat} {q : Nat × va_E} (h : (kw_W (kw_shG 61 G) KM (kw_sh 61 σ))[k]? = some q) : (kw_W G KJ σ)[61 + k]? = some q := by
  rw [kw_W_get] at h ⊢
  rw [kw_KJM]
  cases h1 : KM[k]? with
  | none => rw [h1] at h; cases h
  | some c =>
    rw [h1] at h
    have hk : k < 23 := by rw [← kw_KMl]; exact (List.getElem?_eq_some_iff.mp h1).1
    have hlow := kw_KMlow c (List.mem_of_getElem? h1)
    cases h
    simp only [Option.map_some]
    rw [kw_cell_sh hlow]
    simp [kw_shG, show k < 1000 by omega]
def kw_mixX (σ σ' : kw_S) : kw_S := (fun a => if a < 61 then σ'.1 a else σ.1 a, fun a => if a < 61 then σ'.2 a else σ.2 a)
def kw_mixM (σ σ' : kw_S) : kw_S := (fun a => if a < 61 then σ.1 a else σ'.1 (a - 61), fun a => if a < 61 then σ.2 a else σ'.2 (a - 61))
theorem kw_sh_mixX (σ σ' : kw_S) : kw_sh 61 (kw_mixX σ σ') = kw_sh 61 σ := by
  have h : ∀ a : Nat, ¬ 61 + a < 61 := fun a => by omega
  simp [kw_sh, kw_mixX, h]
theorem kw_sh_mixM (σ σ' : kw_S) : kw_sh 61 (kw_mixM σ σ') = σ' := by
  have h : ∀ a : Nat, ¬ 61 + a < 61 := fun a => by omega
  simp [kw_sh, kw_mixM, h]
theorem kw_bX_out {a : Nat} (h : 61 ≤ a) (j : Nat) : bX a j = (-2147483648, 2147483647) := by
  unfold bX
  split <;> first | omega | rfl
theorem kw_IX_mixX {σ σ' : kw_S} (h : kw_I bX σ') : kw_I bX (kw_mixX σ σ') := by
  intro a j
  by_cases ha : a < 61
  · simp only [kw_mixX, ha, if_true]; exact h a j
  · rw [kw_bX_out (by omega)]
    exact ⟨(kw_rng _).1, Int.le_of_lt_add_one (kw_rng _).2⟩
theorem kw_IX_mixM {σ σ' : kw_S} (h : kw_I bX σ) : kw_I bX (kw_mixM σ σ') := by
  intro a j
  by_cases ha : a < 61
  · simp only [kw_mixM, ha, if_true]; exact h a j
  · rw [kw_bX_out (by omega)]
    exact ⟨(kw_rng _).1, Int.le_of_lt_add_one (kw_rng _).2⟩
section KWJ
variable {l : Launch} {d : Nat} {E : kw_E} {M : kw_M} {P : Option Value → kw_S → Prop} {pc : Nat} {lv : List (Nat × Value)} {st : List Value} {σ : kw_S}
theorem kw_run2 {p : Program} {e : Env} {R : Room} {s : State} {m : MethodId} {args : Array Value} {below : List Frame} {meth : Method} {c : Code} {H : Heap} {locs : List Loc} {cells slots : Nat} {Q : State → Prop} {ls : Array Slot} {K : List kw_K1} {G : kw_G} {A0 A1 : Nat → Prop} {a : Array Value} {st0 rest : List Value} {P' : Option Value → kw_S → Prop}
    (hr : va_Run p l e R s m args below meth c H locs cells slots 0 0 (F0 m pc ls st0) rest (kw_Q G K P' A1 a) A1) (hS : va_S A0 s.heap H locs) (hA : ∀ q, A1 q → A0 q)
    (kk : ∀ (v : Option Value) (σ' : kw_S) (H1 : Heap) (locs1 : List Loc), P' v σ' → va_P G.2.1 vwCl (kw_W G K σ') H1 → (∀ q : Nat, q < H.size → ¬ A1 q → H1[q]? = H[q]?) → va_S A0 s.heap H1 locs1 → W p l e R s m args below meth c H1 locs1 cells slots Q (F0 m (pc + 3) ls ((v.map (kw_rv G.1)).toList ++ rest))) : W p l e R s m args below meth c H locs cells slots Q (F0 m pc ls st0) := by
  intro T hT X
  obtain ⟨v, st₀, t, T', L, h0, X', hL, e1, e2, ⟨⟨u, σ', hv, hp, hb⟩, hz, hk⟩, stp⟩ := hr T hT X
  cases hv
  rw [h0] at hz hk
  obtain ⟨t2, a1, b1⟩ := kk u σ' T'.heap (locs ++ L) hp (by rw [e1]; exact hb) (fun q h1 h2 => by rw [e1]; exact hk q h1 h2)
    ⟨Nat.le_trans hS.1 (by rw [e1]; exact hz), fun q h1 h2 => by rw [e1, hk q (Nat.lt_of_lt_of_le h1 hS.1) (fun z => h2 (hA q z))]; exact hS.2.1 q h1 h2, fun q hq => by
      rcases List.mem_append.mp hq with h | h
      · exact hS.2.2 q h
      · exact hA _ (hL q h)⟩ T' rfl X'
  exact ⟨t2, stp t2 a1, b1⟩
theorem kw_goodV {own : String} {idx ci : Nat} {Y : kw_M} (hl : kw_lkV own idx ci Y) : GoodIn kw_ws (wsV own idx Y.1.2.1.cls Y.1.2.1 (.code Y.1.2.1 Y.1.2.2.1 Y.1.2.2.2.1 Y.1.2.2.2.2 :: kw_ws)) := by
  obtain ⟨⟨T, N, h1⟩, h2, h3, h4, h5, h6, h7, h8, h9⟩ := hl
  intro w hw
  rcases List.mem_append.mp hw with q | q
  · simp only [List.mem_cons, List.not_mem_nil, or_false] at q
    rcases q with rfl | rfl | rfl | rfl
    · exact kw_goodw h2
    · exact kw_goodw h3
    · exact kw_goodw h4
    · exact kw_goodw h5
  · rcases List.mem_cons.mp q with rfl | q
    · exact kw_goodw h6
    · exact kw_goodw q
theorem kw_ints (ad ad' : Nat → Nat) (xs : List Int32) : (xs.map Value.int).map (kw_rv ad) = (xs.map Value.int).map (kw_rv ad') := by
  induction xs with
  | nil => rfl
  | cons x xs ih => simp only [List.map_cons] at ih ⊢; rw [ih]; rfl
def kw_intV (v : Option Value) : Prop := ∀ ad ad' : Nat → Nat, v.map (kw_rv ad) = v.map (kw_rv ad')
/-- a call of the class, in the law -/
theorem kw_callX {i idx d' : Nat} {Y : kw_M} {xs : List Int32} {st0 : List Value} {P' : Option Value → kw_S → Prop} (hE : ∀ q ∈ kw_E0, q ∈ E) (hi : M.2[i]? = some (pc, .invokevirtual idx, 3)) (hl : kw_lkV M.1.1 idx 7 Y) (hn : (parseMethodDescriptor Y.1.2.1.desc).map (fun d => d.parameters.length) = some xs.length) (hM : kw_Met l d' KX Y (.ref 0 :: xs.map Value.int) σ P') (hd : d' < d) (hc : (st.map fun v => v.category).sum ≤ 8) (hst : st0 = (xs.map Value.int).reverse ++ .ref 0 :: st)
    (kk : ∀ (v : Option Value) (σ' : kw_S), P' v σ' → kw_AW l d E KJ M P (pc + 3) lv (v.toList ++ st) (kw_mixX σ σ')) : kw_AW l d E KJ M P pc lv st0 σ := by
  intro p e R s m args below meth c H locs cells slots Q ls G A Cx Sx Rx Fx
  have hT := kw_goodV hl
  obtain ⟨⟨T, N, h1⟩, h2, h3, h4, h5, h6, h7, h8, h9⟩ := hl
  have cw := cwV (R := R) (own := M.1.1) (index := idx) (C := Y.1.2.1.cls) (y := Y.1.2.1) (rm := kw_rm d') (mc := 0) (ms := 0) xs.length Cx.2.2.2.2.2.2.1 hT rfl rfl rfl ⟨rfl, h7, h8, hn⟩ ⟨by show d' + 1 ≤ _; omega, by show _ + 60 * d' ≤ _; omega⟩
  have hPX : va_P G.2.1 vwCl (kw_W G KX σ) H := fun k q hk => Sx.1 k q (kw_WX hk).2
  have hDX : va_D A (kw_W G KX σ) := ⟨fun a b p q ha hb hpq => Sx.2.1.1 a b p q (kw_WX ha).2 (kw_WX hb).2 hpq, fun k q hk => Sx.2.1.2 k q (kw_WX hk).2⟩
  have hSxX : kw_Sx KX M G A s H locs ls lv σ := ⟨hPX, hDX, Sx.2.2.1, Sx.2.2.2⟩
  have hk0 : KX[0]? = some (.inr (7, [.ref 1, .ref 2, .ref 3, .ref 4, .ref 5, .ref 6, .ref 7, .ref 8, .ref 9, .ref 10, .ref 11])) := rfl
  have hrec := va_recv (q := (Y.1.2.1.cls, T, N)) Cx.2.2.2.2.2.2.2.1 hPX h1 (kw_W_at hk0)
  have hrun := va_runV (g := F0 m pc ls (st0.map (kw_rv G.1))) (b := G.1 0) (As := (xs.map Value.int).map (kw_rv G.1)) (rest := st.map (kw_rv G.1)) (cells := cells) (slots := slots) (locs := locs) (e := e) (below := below) (meth := meth) ⟨Cx.1, Cx.2.1, Cx.2.2.2.2.1, Cx.2.2.2.2.2.1, Cx.2.2.2.2.2.2.1⟩ (hM G H.size) cw ⟨kw_blind, hrec, kw_pre Cx hSxX hE (.ref 0 :: xs.map Value.int)⟩ rfl (by simp) Sx.2.2.2.1 (by rw [hst]; simp [kw_rv]) (by rw [kw_catsum]; exact lv_room (rest := st0.map (kw_rv G.1)) hc) (kw_dec Cx hi) ⟨Rx.2.2.1, Rx.2.2.2⟩
  refine kw_run2 hrun Sx.2.2.1 (kw_free hDX Sx.2.2.1 Cx.2.2.2.2.2.2.2.2.1) (fun v σ' H1 locs1 hP' hP1 hk1 hS1 => ?_)
  have hPJ : va_P G.2.1 vwCl (kw_W G KJ (kw_mixX σ σ')) H1 := by
    intro k q hk
    by_cases hlt : k < 61
    · have e1 : (kw_W G KJ (kw_mixX σ σ'))[k]? = (kw_W G KX σ')[k]? := by
        rw [kw_W_get, kw_W_get, kw_KJX hlt]
        cases KX[k]? with
        | none => rfl
        | some c => simp only [Option.map_some]; rw [kw_cell_eq (σ := kw_mixX σ σ') (σ' := σ') (by simp [kw_mixX, hlt]) (by simp [kw_mixX, hlt])]
      rw [e1] at hk
      exact hP1 k q hk
    · have e1 : (kw_W G KJ (kw_mixX σ σ'))[k]? = (kw_W G KJ σ)[k]? := by
        rw [kw_W_get, kw_W_get]
        cases KJ[k]? with
        | none => rfl
        | some c => simp only [Option.map_some]; rw [kw_cell_eq (σ := kw_mixX σ σ') (σ' := σ) (by simp [kw_mixX, hlt]) (by simp [kw_mixX, hlt])]
      rw [e1] at hk
      refine (Sx.1 k q hk).kept (hk1 q.1 (Sx.1 k q hk).lt (fun hA => ?_))
      rcases hA with ⟨j, x, hj⟩ | hj
      · obtain ⟨g1, g2⟩ := kw_WX hj
        have := Sx.2.1.1 j k _ q g2 hk rfl
        omega
      · have := (Sx.1 k q hk).lt
        omega
  have hh := kk v σ' hP' p e R s m args below meth c H1 locs1 cells slots Q ls G A Cx ⟨hPJ, kw_D _ Sx.2.1, hS1, Sx.2.2.2⟩ Rx Fx
  cases v <;> exact hh
/-- a call of the reference, in the law -/
theorem kw_callM {i idx d' : Nat} {Y : kw_M} {xs : List Int32} {st0 : List Value} {P' : Option Value → kw_S → Prop} (hE : ∀ q ∈ kw_E0, q ∈ E) (hi : M.2[i]? = some (pc, .invokevirtual idx, 3)) (hl : kw_lkV M.1.1 idx 8 Y) (hn : (parseMethodDescriptor Y.1.2.1.desc).map (fun d => d.parameters.length) = some xs.length) (hM : kw_Met l d' KM Y (.ref 0 :: xs.map Value.int) (kw_sh 61 σ) P') (hd : d' < d) (hc : (st.map fun v => v.category).sum ≤ 8) (hst : st0 = (xs.map Value.int).reverse ++ .ref 61 :: st) (hv : ∀ v σ', P' v σ' → kw_intV v)
    (kk : ∀ (v : Option Value) (σ' : kw_S), P' v σ' → kw_AW l d E KJ M P (pc + 3) lv (v.toList ++ st) (kw_mixM σ σ')) : kw_AW l d E KJ M P pc lv st0 σ := by
  intro p e R s m args below meth c H locs cells slots Q ls G A Cx Sx Rx Fx
  have hT := kw_goodV hl
  obtain ⟨⟨T, N, h1⟩, h2, h3, h4, h5, h6, h7, h8, h9⟩ := hl
  have cw := cwV (R := R) (own := M.1.1) (index := idx) (C := Y.1.2.1.cls) (y := Y.1.2.1) (rm := kw_rm d') (mc := 0) (ms := 0) xs.length Cx.2.2.2.2.2.2.1 hT rfl rfl rfl ⟨rfl, h7, h8, hn⟩ ⟨by show d' + 1 ≤ _; omega, by show _ + 60 * d' ≤ _; omega⟩
  have hPM : va_P G.2.1 vwCl (kw_W (kw_shG 61 G) KM (kw_sh 61 σ)) H := fun k q hk => Sx.1 (61 + k) q (kw_WM hk)
  have hDM : va_D A (kw_W (kw_shG 61 G) KM (kw_sh 61 σ)) := ⟨fun a b p q ha hb hpq => by have := Sx.2.1.1 _ _ p q (kw_WM ha) (kw_WM hb) hpq; omega, fun k q hk => Sx.2.1.2 _ q (kw_WM hk)⟩
  have hk0 : ∃ fs, KM[0]? = some (.inr (8, fs)) := ⟨_, rfl⟩
  obtain ⟨fs, hk0⟩ := hk0
  have hrec := va_recv (q := (Y.1.2.1.cls, T, N)) Cx.2.2.2.2.2.2.2.1 hPM h1 (kw_W_at hk0)
  have hfr := kw_free (G := kw_shG 61 G) (K := KM) (σ := kw_sh 61 σ) hDM Sx.2.2.1 Cx.2.2.2.2.2.2.2.2.1
  have hpre : ∀ U : State, U.heap = H → s.WarmedH U.vm → kw_Pre (kw_shG 61 G) KM (kw_sh 61 σ) H.size (.ref 0 :: xs.map Value.int) ((Value.ref 0 :: xs.map Value.int).map (kw_rv (kw_shG 61 G).1)).toArray U := by
    intro U hU hW
    refine ⟨rfl, by rw [hU], by rw [hU]; exact hPM, va_K.moved hW.alike Cx.2.2.2.2.2.2.2.1, hDM.weaken (fun _ _ _ _ => trivial), ?_⟩
    rw [hU]
    have hst := Cx.2.2.2.2.2.2.2.2.2.1.next (E' := kw_E0) (A' := va_A (kw_W (kw_shG 61 G) KM (kw_sh 61 σ)) H.size) hE hW Sx.2.2.1 hfr
    exact ⟨hst.1, hst.2.1, fun q hq => by
      have hh := hst.2.2.1 q hq
      have hq1 : (kw_shG 61 G).1 q.1 = G.1 q.1 := by
        have : ¬ q.1 < 1000 := by
          have hq' : q ∈ [(1000, 6, kw_LT), (1001, 6, kw_KA)] := hq
          simp only [List.mem_cons, List.not_mem_nil, or_false] at hq'
          rcases hq' with rfl | rfl <;> decide
        simp [kw_shG, this]
      rw [hq1]; exact hh, hst.2.2.2.1, hst.2.2.2.2⟩
  have hgA : (kw_shG 61 G).1 0 = G.1 61 := by simp [kw_shG]
  rw [hgA] at hrec
  have hpre2 : ∀ U : State, U.heap = H → s.WarmedH U.vm → kw_Pre (kw_shG 61 G) KM (kw_sh 61 σ) H.size (.ref 0 :: xs.map Value.int) (Value.ref (G.1 61) :: (xs.map Value.int).map (kw_rv G.1)).toArray U := by
    intro U hU hW
    have hh := hpre U hU hW
    rw [List.map_cons, kw_ints (kw_shG 61 G).1 G.1] at hh
    simp only [kw_rv] at hh
    rw [hgA] at hh
    exact hh
  have hrun := va_runV (g := F0 m pc ls (st0.map (kw_rv G.1))) (b := G.1 61) (As := (xs.map Value.int).map (kw_rv G.1)) (rest := st.map (kw_rv G.1)) (cells := cells) (slots := slots) (locs := locs) (e := e) (below := below) (meth := meth) ⟨Cx.1, Cx.2.1, Cx.2.2.2.2.1, Cx.2.2.2.2.2.1, Cx.2.2.2.2.2.2.1⟩ (hM (kw_shG 61 G) H.size) cw ⟨kw_blind, hrec, hpre2⟩ rfl (by simp) Sx.2.2.2.1 (by rw [hst]; simp [kw_rv]) (by rw [kw_catsum]; exact lv_room (rest := st0.map (kw_rv G.1)) hc) (kw_dec Cx hi) ⟨Rx.2.2.1, Rx.2.2.2⟩
  refine kw_run2 hrun Sx.2.2.1 hfr (fun v σ' H1 locs1 hP' hP1 hk1 hS1 => ?_)
  have hPJ : va_P G.2.1 vwCl (kw_W G KJ (kw_mixM σ σ')) H1 := by
    intro k q hk
    by_cases hlt : k < 61
    · have e1 : (kw_W G KJ (kw_mixM σ σ'))[k]? = (kw_W G KJ σ)[k]? := by
        rw [kw_W_get, kw_W_get]
        cases KJ[k]? with
        | none => rfl
        | some c => simp only [Option.map_some]; rw [kw_cell_eq (σ := kw_mixM σ σ') (σ' := σ) (by simp [kw_mixM, hlt]) (by simp [kw_mixM, hlt])]
      rw [e1] at hk
      refine (Sx.1 k q hk).kept (hk1 q.1 (Sx.1 k q hk).lt (fun hA => ?_))
      rcases hA with ⟨j, x, hj⟩ | hj
      · have g2 := kw_WM hj
        have := Sx.2.1.1 (61 + j) k _ q g2 hk rfl
        omega
      · have := (Sx.1 k q hk).lt
        omega
    · obtain ⟨j, rfl⟩ : ∃ j, k = 61 + j := ⟨k - 61, by omega⟩
      have e1 : (kw_W G KJ (kw_mixM σ σ'))[61 + j]? = (kw_W (kw_shG 61 G) KM σ')[j]? := by
        rw [kw_W_get, kw_W_get, kw_KJM]
        cases h1 : KM[j]? with
        | none => rfl
        | some c =>
          have hj : j < 23 := by rw [← kw_KMl]; exact (List.getElem?_eq_some_iff.mp h1).1
          simp only [Option.map_some]
          rw [kw_cell_sh (kw_KMlow c (List.mem_of_getElem? h1)), kw_sh_mixM]
          simp [kw_shG, show j < 1000 by omega]
      rw [e1] at hk
      exact hP1 j q hk
  have hh := kk v σ' hP' p e R s m args below meth c H1 locs1 cells slots Q ls G A Cx ⟨hPJ, kw_D _ Sx.2.1, hS1, Sx.2.2.2⟩ Rx Fx
  have hv' := hv v σ' hP' (kw_shG 61 G).1 G.1
  rw [hv']
  cases v <;> exact hh
end KWJ
end
section
/-! ===== pure rows: states, read at a place ===== -/
theorem kf_lx {α β : Type} (v : α) (k : α → β) : kf_l v k = k v := Eq.trans rfl rfl
theorem kf_bx {α β : Type} (p : α × kw_S) (k : α → kw_S → β) : kf_b p k = k p.1 p.2 := Eq.trans rfl rfl
theorem kp_ext {s t : kw_S} (h1 : ∀ a j, s.1 a j = t.1 a j) (h2 : ∀ a j, s.2 a j = t.2 a j) : s = t := Prod.ext (funext fun a => funext (h1 a)) (funext fun a => funext (h2 a))
theorem kp_ui (σ : kw_S) (a i : Nat) (x : Int32) (b j : Nat) : (kw_ui σ a i x).1 b j = if b = a ∧ j = i then x else σ.1 b j := by
  by_cases h : b = a
  · subst h
    by_cases hj : j = i <;> simp [kw_ui, upd, hj]
  · simp [kw_ui, h]
theorem kp_ua (σ : kw_S) (a : Nat) (f : Nat → Int32) (b j : Nat) : (kw_ua σ a f).1 b j = if b = a then f j else σ.1 b j := by
  by_cases h : b = a <;> simp [kw_ua, h]
theorem kp_ul (σ : kw_S) (a i : Nat) (x : Int64) : (kw_ul σ a i x).1 = σ.1 := rfl
theorem kp_ui2 (σ : kw_S) (a i : Nat) (x : Int32) : (kw_ui σ a i x).2 = σ.2 := rfl
theorem kp_ua2 (σ : kw_S) (a : Nat) (f : Nat → Int32) : (kw_ua σ a f).2 = σ.2 := rfl
theorem kp_ul2 (σ : kw_S) (a i : Nat) (x : Int64) (b j : Nat) : (kw_ul σ a i x).2 b j = if b = a ∧ j = i then x else σ.2 b j := by
  by_cases h : b = a
  · subst h
    by_cases hj : j = i <;> simp [kw_ul, vp_updL, hj]
  · simp [kw_ul, h]
theorem kp_q0 : (0 : Int32).toInt = 0 := rfl
theorem kp_q1 : (1 : Int32).toInt = 1 := rfl
theorem kp_q2 : (2 : Int32).toInt = 2 := rfl
theorem kp_inc (x : Int32) (h : x.toInt ≤ 1000000) : (x + Int32.ofInt 1).toInt = x.toInt + 1 := by
  have := kw_rng x
  rw [kw_addI, show (Int32.ofInt 1).toInt = 1 from rfl]
  omega
theorem kp_idx (c : Nat) (x a i : Int32) (hx : x.toInt = c) (hc : c ≤ 1000) (h0 : 0 ≤ a.toInt) (h1 : a.toInt ≤ 1000) (h2 : 0 ≤ i.toInt) (h3 : i.toInt ≤ 100000) : (x * a + i).toNatClampNeg = c * a.toNatClampNeg + i.toNatClampNeg := by
  have e1 := kw_mulI x a
  have e2 := kw_addI (x * a) i
  have c1 := kw_clampI h0
  have c2 := kw_clampI h2
  rw [hx] at e1
  have p0 : (0 : Int) ≤ (c : Int) * a.toInt := Int.mul_nonneg (Int.natCast_nonneg c) h0
  have p1 : (c : Int) * a.toInt ≤ 1000000 := by
    have := Int.mul_le_mul (a := (c : Int)) (b := a.toInt) (c := 1000) (d := 1000) (by omega) h1 h0 (by decide)
    omega
  have e3 : (x * a).toInt = (c : Int) * a.toInt := by
    rw [e1]
    generalize (c : Int) * a.toInt = w at p0 p1 ⊢
    omega
  rw [e3] at e2
  have e4 : (x * a + i).toInt = (c : Int) * a.toInt + i.toInt := by
    rw [e2]
    generalize (c : Int) * a.toInt = w at p0 p1 ⊢
    omega
  have c3 := kw_clampI (x := x * a + i) (by rw [e4]; omega)
  rw [e4, ← c1, ← c2] at c3
  have c4 : (((x * a + i).toNatClampNeg : Nat) : Int) = ((c * a.toNatClampNeg + i.toNatClampNeg : Nat) : Int) := by
    rw [c3]; simp
  exact Int.ofNat.inj c4
theorem kp_fl29 (v : Int32) : ∀ (n : Nat) (x : Int32) (S : kw_S), 0 ≤ x.toInt → x.toInt ≤ 40 → (40 - x.toInt).toNat < n → l_J7_fill_53178_29_5 v n x S = kw_ua S 29 (fun j => if x.toNatClampNeg ≤ j ∧ j < 40 then v else S.1 29 j) := by
  intro n
  induction n with
  | zero => intro x S _ _ h; exact absurd h (Nat.not_lt_zero _)
  | succ n ih =>
    intro x S h0 h1 h2
    have c := kw_clampI h0
    rw [l_J7_fill_53178_29_5_s]
    by_cases hx : x.toInt < 40
    · have z := kp_inc x (by omega)
      have c1 := kw_clampI (x := x + Int32.ofInt 1) (by omega)
      rw [if_pos (show x.toInt < (40 : Int32).toInt from hx)]
      simp only [kf_lx]
      rw [ih _ _ (by omega) (by omega) (by omega)]
      refine kp_ext (fun b j => ?_) (fun _ _ => rfl)
      simp only [kp_ua, kp_ui]
      by_cases hb : b = 29
      · subst hb
        simp only [if_true, true_and]
        by_cases hj : j = x.toNatClampNeg
        · rw [if_neg (by omega), if_pos hj, if_pos (by omega)]
        · by_cases h3 : x.toNatClampNeg ≤ j ∧ j < 40
          · rw [if_pos (by omega), if_pos h3]
          · rw [if_neg (by omega), if_neg hj, if_neg h3]
      · simp [hb]
    · rw [if_neg (show ¬ x.toInt < (40 : Int32).toInt from hx)]
      refine kp_ext (fun b j => ?_) (fun _ _ => rfl)
      simp only [kp_ua]
      by_cases hb : b = 29
      · subst hb
        rw [if_pos rfl, if_neg (by omega)]
      · rw [if_neg hb]
theorem kp_fill29 (σ : kw_S) (v : Int32) : f_J7_fill_53178_29 σ v = kw_ua σ 29 (fun j => if j < 40 then v else σ.1 29 j) := by
  rw [f_J7_fill_53178_29_u, kp_fl29 v _ _ _ (by decide) (by decide) (by rw [kp_q0]; omega)]
  rw [show (0 : Int32).toNatClampNeg = 0 from rfl]
  simp
theorem kp_fl30 (v : Int32) : ∀ (n : Nat) (x : Int32) (S : kw_S), 0 ≤ x.toInt → x.toInt ≤ 40 → (40 - x.toInt).toNat < n → l_J7_fill_53178_30_5 v n x S = kw_ua S 30 (fun j => if x.toNatClampNeg ≤ j ∧ j < 40 then v else S.1 30 j) := by
  intro n
  induction n with
  | zero => intro x S _ _ h; exact absurd h (Nat.not_lt_zero _)
  | succ n ih =>
    intro x S h0 h1 h2
    have c := kw_clampI h0
    rw [l_J7_fill_53178_30_5_s]
    by_cases hx : x.toInt < 40
    · have z := kp_inc x (by omega)
      have c1 := kw_clampI (x := x + Int32.ofInt 1) (by omega)
      rw [if_pos (show x.toInt < (40 : Int32).toInt from hx)]
      simp only [kf_lx]
      rw [ih _ _ (by omega) (by omega) (by omega)]
      refine kp_ext (fun b j => ?_) (fun _ _ => rfl)
      simp only [kp_ua, kp_ui]
      by_cases hb : b = 30
      · subst hb
        simp only [if_true, true_and]
        by_cases hj : j = x.toNatClampNeg
        · rw [if_neg (by omega), if_pos hj, if_pos (by omega)]
        · by_cases h3 : x.toNatClampNeg ≤ j ∧ j < 40
          · rw [if_pos (by omega), if_pos h3]
          · rw [if_neg (by omega), if_neg hj, if_neg h3]
      · simp [hb]
    · rw [if_neg (show ¬ x.toInt < (40 : Int32).toInt from hx)]
      refine kp_ext (fun b j => ?_) (fun _ _ => rfl)
      simp only [kp_ua]
      by_cases hb : b = 30
      · subst hb
        rw [if_pos rfl, if_neg (by omega)]
      · rw [if_neg hb]
theorem kp_fill30 (σ : kw_S) (v : Int32) : f_J7_fill_53178_30 σ v = kw_ua σ 30 (fun j => if j < 40 then v else σ.1 30 j) := by
  rw [f_J7_fill_53178_30_u, kp_fl30 v _ _ _ (by decide) (by decide) (by rw [kp_q0]; omega)]
  rw [show (0 : Int32).toNatClampNeg = 0 from rfl]
  simp
theorem kp_fl31 (v : Int32) : ∀ (n : Nat) (x : Int32) (S : kw_S), 0 ≤ x.toInt → x.toInt ≤ 40 → (40 - x.toInt).toNat < n → l_J7_fill_53178_31_5 v n x S = kw_ua S 31 (fun j => if x.toNatClampNeg ≤ j ∧ j < 40 then v else S.1 31 j) := by
  intro n
  induction n with
  | zero => intro x S _ _ h; exact absurd h (Nat.not_lt_zero _)
  | succ n ih =>
    intro x S h0 h1 h2
    have c := kw_clampI h0
    rw [l_J7_fill_53178_31_5_s]
    by_cases hx : x.toInt < 40
    · have z := kp_inc x (by omega)
      have c1 := kw_clampI (x := x + Int32.ofInt 1) (by omega)
      rw [if_pos (show x.toInt < (40 : Int32).toInt from hx)]
      simp only [kf_lx]
      rw [ih _ _ (by omega) (by omega) (by omega)]
      refine kp_ext (fun b j => ?_) (fun _ _ => rfl)
      simp only [kp_ua, kp_ui]
      by_cases hb : b = 31
      · subst hb
        simp only [if_true, true_and]
        by_cases hj : j = x.toNatClampNeg
        · rw [if_neg (by omega), if_pos hj, if_pos (by omega)]
        · by_cases h3 : x.toNatClampNeg ≤ j ∧ j < 40
          · rw [if_pos (by omega), if_pos h3]
          · rw [if_neg (by omega), if_neg hj, if_neg h3]
      · simp [hb]
    · rw [if_neg (show ¬ x.toInt < (40 : Int32).toInt from hx)]
      refine kp_ext (fun b j => ?_) (fun _ _ => rfl)
      simp only [kp_ua]
      by_cases hb : b = 31
      · subst hb
        rw [if_pos rfl, if_neg (by omega)]
      · rw [if_neg hb]
theorem kp_fill31 (σ : kw_S) (v : Int32) : f_J7_fill_53178_31 σ v = kw_ua σ 31 (fun j => if j < 40 then v else σ.1 31 j) := by
  rw [f_J7_fill_53178_31_u, kp_fl31 v _ _ _ (by decide) (by decide) (by rw [kp_q0]; omega)]
  rw [show (0 : Int32).toNatClampNeg = 0 from rfl]
  simp
theorem kp_fl32 (v : Int32) : ∀ (n : Nat) (x : Int32) (S : kw_S), 0 ≤ x.toInt → x.toInt ≤ 40 → (40 - x.toInt).toNat < n → l_J7_fill_53178_32_5 v n x S = kw_ua S 32 (fun j => if x.toNatClampNeg ≤ j ∧ j < 40 then v else S.1 32 j) := by
  intro n
  induction n with
  | zero => intro x S _ _ h; exact absurd h (Nat.not_lt_zero _)
  | succ n ih =>
    intro x S h0 h1 h2
    have c := kw_clampI h0
    rw [l_J7_fill_53178_32_5_s]
    by_cases hx : x.toInt < 40
    · have z := kp_inc x (by omega)
      have c1 := kw_clampI (x := x + Int32.ofInt 1) (by omega)
      rw [if_pos (show x.toInt < (40 : Int32).toInt from hx)]
      simp only [kf_lx]
      rw [ih _ _ (by omega) (by omega) (by omega)]
      refine kp_ext (fun b j => ?_) (fun _ _ => rfl)
      simp only [kp_ua, kp_ui]
      by_cases hb : b = 32
      · subst hb
        simp only [if_true, true_and]
        by_cases hj : j = x.toNatClampNeg
        · rw [if_neg (by omega), if_pos hj, if_pos (by omega)]
        · by_cases h3 : x.toNatClampNeg ≤ j ∧ j < 40
          · rw [if_pos (by omega), if_pos h3]
          · rw [if_neg (by omega), if_neg hj, if_neg h3]
      · simp [hb]
    · rw [if_neg (show ¬ x.toInt < (40 : Int32).toInt from hx)]
      refine kp_ext (fun b j => ?_) (fun _ _ => rfl)
      simp only [kp_ua]
      by_cases hb : b = 32
      · subst hb
        rw [if_pos rfl, if_neg (by omega)]
      · rw [if_neg hb]
theorem kp_fill32 (σ : kw_S) (v : Int32) : f_J7_fill_53178_32 σ v = kw_ua σ 32 (fun j => if j < 40 then v else σ.1 32 j) := by
  rw [f_J7_fill_53178_32_u, kp_fl32 v _ _ _ (by decide) (by decide) (by rw [kp_q0]; omega)]
  rw [show (0 : Int32).toNatClampNeg = 0 from rfl]
  simp
theorem kp_fl33 (v : Int32) : ∀ (n : Nat) (x : Int32) (S : kw_S), 0 ≤ x.toInt → x.toInt ≤ 40 → (40 - x.toInt).toNat < n → l_J7_fill_53178_33_5 v n x S = kw_ua S 33 (fun j => if x.toNatClampNeg ≤ j ∧ j < 40 then v else S.1 33 j) := by
  intro n
  induction n with
  | zero => intro x S _ _ h; exact absurd h (Nat.not_lt_zero _)
  | succ n ih =>
    intro x S h0 h1 h2
    have c := kw_clampI h0
    rw [l_J7_fill_53178_33_5_s]
    by_cases hx : x.toInt < 40
    · have z := kp_inc x (by omega)
      have c1 := kw_clampI (x := x + Int32.ofInt 1) (by omega)
      rw [if_pos (show x.toInt < (40 : Int32).toInt from hx)]
      simp only [kf_lx]
      rw [ih _ _ (by omega) (by omega) (by omega)]
      refine kp_ext (fun b j => ?_) (fun _ _ => rfl)
      simp only [kp_ua, kp_ui]
      by_cases hb : b = 33
      · subst hb
        simp only [if_true, true_and]
        by_cases hj : j = x.toNatClampNeg
        · rw [if_neg (by omega), if_pos hj, if_pos (by omega)]
        · by_cases h3 : x.toNatClampNeg ≤ j ∧ j < 40
          · rw [if_pos (by omega), if_pos h3]
          · rw [if_neg (by omega), if_neg hj, if_neg h3]
      · simp [hb]
    · rw [if_neg (show ¬ x.toInt < (40 : Int32).toInt from hx)]
      refine kp_ext (fun b j => ?_) (fun _ _ => rfl)
      simp only [kp_ua]
      by_cases hb : b = 33
      · subst hb
        rw [if_pos rfl, if_neg (by omega)]
      · rw [if_neg hb]
theorem kp_fill33 (σ : kw_S) (v : Int32) : f_J7_fill_53178_33 σ v = kw_ua σ 33 (fun j => if j < 40 then v else σ.1 33 j) := by
  rw [f_J7_fill_53178_33_u, kp_fl33 v _ _ _ (by decide) (by decide) (by rw [kp_q0]; omega)]
  rw [show (0 : Int32).toNatClampNeg = 0 from rfl]
  simp
theorem kp_fl34 (v : Int32) : ∀ (n : Nat) (x : Int32) (S : kw_S), 0 ≤ x.toInt → x.toInt ≤ 40 → (40 - x.toInt).toNat < n → l_J7_fill_53178_34_5 v n x S = kw_ua S 34 (fun j => if x.toNatClampNeg ≤ j ∧ j < 40 then v else S.1 34 j) := by
  intro n
  induction n with
  | zero => intro x S _ _ h; exact absurd h (Nat.not_lt_zero _)
  | succ n ih =>
    intro x S h0 h1 h2
    have c := kw_clampI h0
    rw [l_J7_fill_53178_34_5_s]
    by_cases hx : x.toInt < 40
    · have z := kp_inc x (by omega)
      have c1 := kw_clampI (x := x + Int32.ofInt 1) (by omega)
      rw [if_pos (show x.toInt < (40 : Int32).toInt from hx)]
      simp only [kf_lx]
      rw [ih _ _ (by omega) (by omega) (by omega)]
      refine kp_ext (fun b j => ?_) (fun _ _ => rfl)
      simp only [kp_ua, kp_ui]
      by_cases hb : b = 34
      · subst hb
        simp only [if_true, true_and]
        by_cases hj : j = x.toNatClampNeg
        · rw [if_neg (by omega), if_pos hj, if_pos (by omega)]
        · by_cases h3 : x.toNatClampNeg ≤ j ∧ j < 40
          · rw [if_pos (by omega), if_pos h3]
          · rw [if_neg (by omega), if_neg hj, if_neg h3]
      · simp [hb]
    · rw [if_neg (show ¬ x.toInt < (40 : Int32).toInt from hx)]
      refine kp_ext (fun b j => ?_) (fun _ _ => rfl)
      simp only [kp_ua]
      by_cases hb : b = 34
      · subst hb
        rw [if_pos rfl, if_neg (by omega)]
      · rw [if_neg hb]
theorem kp_fill34 (σ : kw_S) (v : Int32) : f_J7_fill_53178_34 σ v = kw_ua σ 34 (fun j => if j < 40 then v else σ.1 34 j) := by
  rw [f_J7_fill_53178_34_u, kp_fl34 v _ _ _ (by decide) (by decide) (by rw [kp_q0]; omega)]
  rw [show (0 : Int32).toNatClampNeg = 0 from rfl]
  simp
theorem kp_fl35 (v : Int32) : ∀ (n : Nat) (x : Int32) (S : kw_S), 0 ≤ x.toInt → x.toInt ≤ 60 → (60 - x.toInt).toNat < n → l_J7_fill_53178_35_5 v n x S = kw_ua S 35 (fun j => if x.toNatClampNeg ≤ j ∧ j < 60 then v else S.1 35 j) := by
  intro n
  induction n with
  | zero => intro x S _ _ h; exact absurd h (Nat.not_lt_zero _)
  | succ n ih =>
    intro x S h0 h1 h2
    have c := kw_clampI h0
    rw [l_J7_fill_53178_35_5_s]
    by_cases hx : x.toInt < 60
    · have z := kp_inc x (by omega)
      have c1 := kw_clampI (x := x + Int32.ofInt 1) (by omega)
      rw [if_pos (show x.toInt < (60 : Int32).toInt from hx)]
      simp only [kf_lx]
      rw [ih _ _ (by omega) (by omega) (by omega)]
      refine kp_ext (fun b j => ?_) (fun _ _ => rfl)
      simp only [kp_ua, kp_ui]
      by_cases hb : b = 35
      · subst hb
        simp only [if_true, true_and]
        by_cases hj : j = x.toNatClampNeg
        · rw [if_neg (by omega), if_pos hj, if_pos (by omega)]
        · by_cases h3 : x.toNatClampNeg ≤ j ∧ j < 60
          · rw [if_pos (by omega), if_pos h3]
          · rw [if_neg (by omega), if_neg hj, if_neg h3]
      · simp [hb]
    · rw [if_neg (show ¬ x.toInt < (60 : Int32).toInt from hx)]
      refine kp_ext (fun b j => ?_) (fun _ _ => rfl)
      simp only [kp_ua]
      by_cases hb : b = 35
      · subst hb
        rw [if_pos rfl, if_neg (by omega)]
      · rw [if_neg hb]
theorem kp_fill35 (σ : kw_S) (v : Int32) : f_J7_fill_53178_35 σ v = kw_ua σ 35 (fun j => if j < 60 then v else σ.1 35 j) := by
  rw [f_J7_fill_53178_35_u, kp_fl35 v _ _ _ (by decide) (by decide) (by rw [kp_q0]; omega)]
  rw [show (0 : Int32).toNatClampNeg = 0 from rfl]
  simp
theorem kp_fl36 (v : Int32) : ∀ (n : Nat) (x : Int32) (S : kw_S), 0 ≤ x.toInt → x.toInt ≤ 60 → (60 - x.toInt).toNat < n → l_J7_fill_53178_36_5 v n x S = kw_ua S 36 (fun j => if x.toNatClampNeg ≤ j ∧ j < 60 then v else S.1 36 j) := by
  intro n
  induction n with
  | zero => intro x S _ _ h; exact absurd h (Nat.not_lt_zero _)
  | succ n ih =>
    intro x S h0 h1 h2
    have c := kw_clampI h0
    rw [l_J7_fill_53178_36_5_s]
    by_cases hx : x.toInt < 60
    · have z := kp_inc x (by omega)
      have c1 := kw_clampI (x := x + Int32.ofInt 1) (by omega)
      rw [if_pos (show x.toInt < (60 : Int32).toInt from hx)]
      simp only [kf_lx]
      rw [ih _ _ (by omega) (by omega) (by omega)]
      refine kp_ext (fun b j => ?_) (fun _ _ => rfl)
      simp only [kp_ua, kp_ui]
      by_cases hb : b = 36
      · subst hb
        simp only [if_true, true_and]
        by_cases hj : j = x.toNatClampNeg
        · rw [if_neg (by omega), if_pos hj, if_pos (by omega)]
        · by_cases h3 : x.toNatClampNeg ≤ j ∧ j < 60
          · rw [if_pos (by omega), if_pos h3]
          · rw [if_neg (by omega), if_neg hj, if_neg h3]
      · simp [hb]
    · rw [if_neg (show ¬ x.toInt < (60 : Int32).toInt from hx)]
      refine kp_ext (fun b j => ?_) (fun _ _ => rfl)
      simp only [kp_ua]
      by_cases hb : b = 36
      · subst hb
        rw [if_pos rfl, if_neg (by omega)]
      · rw [if_neg hb]
theorem kp_fill36 (σ : kw_S) (v : Int32) : f_J7_fill_53178_36 σ v = kw_ua σ 36 (fun j => if j < 60 then v else σ.1 36 j) := by
  rw [f_J7_fill_53178_36_u, kp_fl36 v _ _ _ (by decide) (by decide) (by rw [kp_q0]; omega)]
  rw [show (0 : Int32).toNatClampNeg = 0 from rfl]
  simp
theorem kp_fl37 (v : Int32) : ∀ (n : Nat) (x : Int32) (S : kw_S), 0 ≤ x.toInt → x.toInt ≤ 60 → (60 - x.toInt).toNat < n → l_J7_fill_53178_37_5 v n x S = kw_ua S 37 (fun j => if x.toNatClampNeg ≤ j ∧ j < 60 then v else S.1 37 j) := by
  intro n
  induction n with
  | zero => intro x S _ _ h; exact absurd h (Nat.not_lt_zero _)
  | succ n ih =>
    intro x S h0 h1 h2
    have c := kw_clampI h0
    rw [l_J7_fill_53178_37_5_s]
    by_cases hx : x.toInt < 60
    · have z := kp_inc x (by omega)
      have c1 := kw_clampI (x := x + Int32.ofInt 1) (by omega)
      rw [if_pos (show x.toInt < (60 : Int32).toInt from hx)]
      simp only [kf_lx]
      rw [ih _ _ (by omega) (by omega) (by omega)]
      refine kp_ext (fun b j => ?_) (fun _ _ => rfl)
      simp only [kp_ua, kp_ui]
      by_cases hb : b = 37
      · subst hb
        simp only [if_true, true_and]
        by_cases hj : j = x.toNatClampNeg
        · rw [if_neg (by omega), if_pos hj, if_pos (by omega)]
        · by_cases h3 : x.toNatClampNeg ≤ j ∧ j < 60
          · rw [if_pos (by omega), if_pos h3]
          · rw [if_neg (by omega), if_neg hj, if_neg h3]
      · simp [hb]
    · rw [if_neg (show ¬ x.toInt < (60 : Int32).toInt from hx)]
      refine kp_ext (fun b j => ?_) (fun _ _ => rfl)
      simp only [kp_ua]
      by_cases hb : b = 37
      · subst hb
        rw [if_pos rfl, if_neg (by omega)]
      · rw [if_neg hb]
theorem kp_fill37 (σ : kw_S) (v : Int32) : f_J7_fill_53178_37 σ v = kw_ua σ 37 (fun j => if j < 60 then v else σ.1 37 j) := by
  rw [f_J7_fill_53178_37_u, kp_fl37 v _ _ _ (by decide) (by decide) (by rw [kp_q0]; omega)]
  rw [show (0 : Int32).toNatClampNeg = 0 from rfl]
  simp
theorem kp_fl38 (v : Int32) : ∀ (n : Nat) (x : Int32) (S : kw_S), 0 ≤ x.toInt → x.toInt ≤ 60 → (60 - x.toInt).toNat < n → l_J7_fill_53178_38_5 v n x S = kw_ua S 38 (fun j => if x.toNatClampNeg ≤ j ∧ j < 60 then v else S.1 38 j) := by
  intro n
  induction n with
  | zero => intro x S _ _ h; exact absurd h (Nat.not_lt_zero _)
  | succ n ih =>
    intro x S h0 h1 h2
    have c := kw_clampI h0
    rw [l_J7_fill_53178_38_5_s]
    by_cases hx : x.toInt < 60
    · have z := kp_inc x (by omega)
      have c1 := kw_clampI (x := x + Int32.ofInt 1) (by omega)
      rw [if_pos (show x.toInt < (60 : Int32).toInt from hx)]
      simp only [kf_lx]
      rw [ih _ _ (by omega) (by omega) (by omega)]
      refine kp_ext (fun b j => ?_) (fun _ _ => rfl)
      simp only [kp_ua, kp_ui]
      by_cases hb : b = 38
      · subst hb
        simp only [if_true, true_and]
        by_cases hj : j = x.toNatClampNeg
        · rw [if_neg (by omega), if_pos hj, if_pos (by omega)]
        · by_cases h3 : x.toNatClampNeg ≤ j ∧ j < 60
          · rw [if_pos (by omega), if_pos h3]
          · rw [if_neg (by omega), if_neg hj, if_neg h3]
      · simp [hb]
    · rw [if_neg (show ¬ x.toInt < (60 : Int32).toInt from hx)]
      refine kp_ext (fun b j => ?_) (fun _ _ => rfl)
      simp only [kp_ua]
      by_cases hb : b = 38
      · subst hb
        rw [if_pos rfl, if_neg (by omega)]
      · rw [if_neg hb]
theorem kp_fill38 (σ : kw_S) (v : Int32) : f_J7_fill_53178_38 σ v = kw_ua σ 38 (fun j => if j < 60 then v else σ.1 38 j) := by
  rw [f_J7_fill_53178_38_u, kp_fl38 v _ _ _ (by decide) (by decide) (by rw [kp_q0]; omega)]
  rw [show (0 : Int32).toNatClampNeg = 0 from rfl]
  simp
theorem kp_fl49 (v : Int32) : ∀ (n : Nat) (x : Int32) (S : kw_S), 0 ≤ x.toInt → x.toInt ≤ 40 → (40 - x.toInt).toNat < n → l_J7_fill_53178_49_5 v n x S = kw_ua S 49 (fun j => if x.toNatClampNeg ≤ j ∧ j < 40 then v else S.1 49 j) := by
  intro n
  induction n with
  | zero => intro x S _ _ h; exact absurd h (Nat.not_lt_zero _)
  | succ n ih =>
    intro x S h0 h1 h2
    have c := kw_clampI h0
    rw [l_J7_fill_53178_49_5_s]
    by_cases hx : x.toInt < 40
    · have z := kp_inc x (by omega)
      have c1 := kw_clampI (x := x + Int32.ofInt 1) (by omega)
      rw [if_pos (show x.toInt < (40 : Int32).toInt from hx)]
      simp only [kf_lx]
      rw [ih _ _ (by omega) (by omega) (by omega)]
      refine kp_ext (fun b j => ?_) (fun _ _ => rfl)
      simp only [kp_ua, kp_ui]
      by_cases hb : b = 49
      · subst hb
        simp only [if_true, true_and]
        by_cases hj : j = x.toNatClampNeg
        · rw [if_neg (by omega), if_pos hj, if_pos (by omega)]
        · by_cases h3 : x.toNatClampNeg ≤ j ∧ j < 40
          · rw [if_pos (by omega), if_pos h3]
          · rw [if_neg (by omega), if_neg hj, if_neg h3]
      · simp [hb]
    · rw [if_neg (show ¬ x.toInt < (40 : Int32).toInt from hx)]
      refine kp_ext (fun b j => ?_) (fun _ _ => rfl)
      simp only [kp_ua]
      by_cases hb : b = 49
      · subst hb
        rw [if_pos rfl, if_neg (by omega)]
      · rw [if_neg hb]
theorem kp_fill49 (σ : kw_S) (v : Int32) : f_J7_fill_53178_49 σ v = kw_ua σ 49 (fun j => if j < 40 then v else σ.1 49 j) := by
  rw [f_J7_fill_53178_49_u, kp_fl49 v _ _ _ (by decide) (by decide) (by rw [kp_q0]; omega)]
  rw [show (0 : Int32).toNatClampNeg = 0 from rfl]
  simp
theorem kp_fl50 (v : Int32) : ∀ (n : Nat) (x : Int32) (S : kw_S), 0 ≤ x.toInt → x.toInt ≤ 40 → (40 - x.toInt).toNat < n → l_J7_fill_53178_50_5 v n x S = kw_ua S 50 (fun j => if x.toNatClampNeg ≤ j ∧ j < 40 then v else S.1 50 j) := by
  intro n
  induction n with
  | zero => intro x S _ _ h; exact absurd h (Nat.not_lt_zero _)
  | succ n ih =>
    intro x S h0 h1 h2
    have c := kw_clampI h0
    rw [l_J7_fill_53178_50_5_s]
    by_cases hx : x.toInt < 40
    · have z := kp_inc x (by omega)
      have c1 := kw_clampI (x := x + Int32.ofInt 1) (by omega)
      rw [if_pos (show x.toInt < (40 : Int32).toInt from hx)]
      simp only [kf_lx]
      rw [ih _ _ (by omega) (by omega) (by omega)]
      refine kp_ext (fun b j => ?_) (fun _ _ => rfl)
      simp only [kp_ua, kp_ui]
      by_cases hb : b = 50
      · subst hb
        simp only [if_true, true_and]
        by_cases hj : j = x.toNatClampNeg
        · rw [if_neg (by omega), if_pos hj, if_pos (by omega)]
        · by_cases h3 : x.toNatClampNeg ≤ j ∧ j < 40
          · rw [if_pos (by omega), if_pos h3]
          · rw [if_neg (by omega), if_neg hj, if_neg h3]
      · simp [hb]
    · rw [if_neg (show ¬ x.toInt < (40 : Int32).toInt from hx)]
      refine kp_ext (fun b j => ?_) (fun _ _ => rfl)
      simp only [kp_ua]
      by_cases hb : b = 50
      · subst hb
        rw [if_pos rfl, if_neg (by omega)]
      · rw [if_neg hb]
theorem kp_fill50 (σ : kw_S) (v : Int32) : f_J7_fill_53178_50 σ v = kw_ua σ 50 (fun j => if j < 40 then v else σ.1 50 j) := by
  rw [f_J7_fill_53178_50_u, kp_fl50 v _ _ _ (by decide) (by decide) (by rw [kp_q0]; omega)]
  rw [show (0 : Int32).toNatClampNeg = 0 from rfl]
  simp
theorem kp_fl51 (v : Int32) : ∀ (n : Nat) (x : Int32) (S : kw_S), 0 ≤ x.toInt → x.toInt ≤ 40 → (40 - x.toInt).toNat < n → l_J7_fill_53178_51_5 v n x S = kw_ua S 51 (fun j => if x.toNatClampNeg ≤ j ∧ j < 40 then v else S.1 51 j) := by
  intro n
  induction n with
  | zero => intro x S _ _ h; exact absurd h (Nat.not_lt_zero _)
  | succ n ih =>
    intro x S h0 h1 h2
    have c := kw_clampI h0
    rw [l_J7_fill_53178_51_5_s]
    by_cases hx : x.toInt < 40
    · have z := kp_inc x (by omega)
      have c1 := kw_clampI (x := x + Int32.ofInt 1) (by omega)
      rw [if_pos (show x.toInt < (40 : Int32).toInt from hx)]
      simp only [kf_lx]
      rw [ih _ _ (by omega) (by omega) (by omega)]
      refine kp_ext (fun b j => ?_) (fun _ _ => rfl)
      simp only [kp_ua, kp_ui]
      by_cases hb : b = 51
      · subst hb
        simp only [if_true, true_and]
        by_cases hj : j = x.toNatClampNeg
        · rw [if_neg (by omega), if_pos hj, if_pos (by omega)]
        · by_cases h3 : x.toNatClampNeg ≤ j ∧ j < 40
          · rw [if_pos (by omega), if_pos h3]
          · rw [if_neg (by omega), if_neg hj, if_neg h3]
      · simp [hb]
    · rw [if_neg (show ¬ x.toInt < (40 : Int32).toInt from hx)]
      refine kp_ext (fun b j => ?_) (fun _ _ => rfl)
      simp only [kp_ua]
      by_cases hb : b = 51
      · subst hb
        rw [if_pos rfl, if_neg (by omega)]
      · rw [if_neg hb]
theorem kp_fill51 (σ : kw_S) (v : Int32) : f_J7_fill_53178_51 σ v = kw_ua σ 51 (fun j => if j < 40 then v else σ.1 51 j) := by
  rw [f_J7_fill_53178_51_u, kp_fl51 v _ _ _ (by decide) (by decide) (by rw [kp_q0]; omega)]
  rw [show (0 : Int32).toNatClampNeg = 0 from rfl]
  simp
theorem kp_fl19 (v : Int32) : ∀ (n : Nat) (x : Int32) (S : kw_S), 0 ≤ x.toInt → x.toInt ≤ 6 → (6 - x.toInt).toNat < n → l_J7_fill_53178_19_5 v n x S = kw_ua S 19 (fun j => if x.toNatClampNeg ≤ j ∧ j < 6 then v else S.1 19 j) := by
  intro n
  induction n with
  | zero => intro x S _ _ h; exact absurd h (Nat.not_lt_zero _)
  | succ n ih =>
    intro x S h0 h1 h2
    have c := kw_clampI h0
    rw [l_J7_fill_53178_19_5_s]
    by_cases hx : x.toInt < 6
    · have z := kp_inc x (by omega)
      have c1 := kw_clampI (x := x + Int32.ofInt 1) (by omega)
      rw [if_pos (show x.toInt < (6 : Int32).toInt from hx)]
      simp only [kf_lx]
      rw [ih _ _ (by omega) (by omega) (by omega)]
      refine kp_ext (fun b j => ?_) (fun _ _ => rfl)
      simp only [kp_ua, kp_ui]
      by_cases hb : b = 19
      · subst hb
        simp only [if_true, true_and]
        by_cases hj : j = x.toNatClampNeg
        · rw [if_neg (by omega), if_pos hj, if_pos (by omega)]
        · by_cases h3 : x.toNatClampNeg ≤ j ∧ j < 6
          · rw [if_pos (by omega), if_pos h3]
          · rw [if_neg (by omega), if_neg hj, if_neg h3]
      · simp [hb]
    · rw [if_neg (show ¬ x.toInt < (6 : Int32).toInt from hx)]
      refine kp_ext (fun b j => ?_) (fun _ _ => rfl)
      simp only [kp_ua]
      by_cases hb : b = 19
      · subst hb
        rw [if_pos rfl, if_neg (by omega)]
      · rw [if_neg hb]
theorem kp_fill19 (σ : kw_S) (v : Int32) : f_J7_fill_53178_19 σ v = kw_ua σ 19 (fun j => if j < 6 then v else σ.1 19 j) := by
  rw [f_J7_fill_53178_19_u, kp_fl19 v _ _ _ (by decide) (by decide) (by rw [kp_q0]; omega)]
  rw [show (0 : Int32).toNatClampNeg = 0 from rfl]
  simp
end
section
theorem kp_has1 (σ : kw_S) (k : Int32) : f_X3_has_1 σ k = if 0 ≤ k.toInt ∧ k.toInt < 6 then 1 else 0 := by
  have q : (6 : Int32).toInt = 6 := rfl
  rw [f_X3_has_1_u]
  by_cases h : k.toInt < 0
  · rw [if_pos h, if_neg (by omega)]
  · rw [if_neg h]
    by_cases h2 : k.toInt < 6
    · rw [if_pos (by omega), if_pos (by omega)]
    · rw [if_neg (by omega), if_neg (by omega)]
theorem kp_size1 (σ : kw_S) (k : Int32) : f_X3_sizeOf_1 σ k = if 0 ≤ k.toInt ∧ k.toInt < 6 then σ.1 13 k.toNatClampNeg else -1 := by
  rw [f_X3_sizeOf_1_u]
  simp only [kf_lx, kp_has1]
  by_cases h : 0 ≤ k.toInt ∧ k.toInt < 6
  · simp only [if_pos h, kp_q1]; rfl
  · simp only [if_neg h, kp_q0]; rfl
theorem kp_miss1 (σ : kw_S) (k : Int32) : f_X3_isMissing_1 σ k = if 0 ≤ k.toInt ∧ k.toInt < 6 ∧ 0 ≤ (σ.1 13 k.toNatClampNeg).toInt then 0 else 1 := by
  rw [f_X3_isMissing_1_u]
  simp only [kf_lx, kp_size1]
  by_cases h : 0 ≤ k.toInt ∧ k.toInt < 6
  · simp only [if_pos h]
    by_cases h2 : (σ.1 13 k.toNatClampNeg).toInt < 0
    · rw [if_pos h2, if_neg (by omega)]
    · rw [if_neg h2, if_pos (by omega)]
  · simp only [if_neg h]
    rw [if_pos (by decide), if_neg (by omega)]
theorem kp_places1 (σ : kw_S) (hb : ∀ j : Nat, -1 ≤ (σ.1 13 j).toInt ∧ (σ.1 13 j).toInt ≤ 40) (k f n : Int32) (hn : 0 ≤ n.toInt) (hn2 : n.toInt ≤ 1000000) : f_X3_hasPlaces_1 σ k f n = if 0 ≤ k.toInt ∧ k.toInt < 6 ∧ 0 ≤ f.toInt ∧ f.toInt + n.toInt ≤ (σ.1 13 k.toNatClampNeg).toInt then 1 else 0 := by
  rw [f_X3_hasPlaces_1_u]
  simp only [kf_lx, kp_has1]
  have hb := hb k.toNatClampNeg
  have e := kw_subI (σ.1 13 k.toNatClampNeg) n
  by_cases h : 0 ≤ k.toInt ∧ k.toInt < 6
  · rw [if_pos h, if_neg (by decide)]
    by_cases hf : f.toInt < 0
    · rw [if_pos hf, if_neg (by omega)]
    · rw [if_neg hf, if_neg (by omega)]
      by_cases h3 : (σ.1 13 k.toNatClampNeg - n).toInt < f.toInt
      · rw [if_pos h3, if_neg (by omega)]
      · rw [if_neg h3, if_pos (by omega)]
  · rw [if_neg h, if_pos (by decide), if_neg (by omega)]
theorem kp_row1 (k : Int32) (h0 : 0 ≤ k.toInt) (h1 : k.toInt < 6) {β : Type} (A : Nat → β) (z : β) : (if k.toInt = 0 then A 29 else if k.toInt = 1 then A 30 else if k.toInt = 2 then A 31 else if k.toInt = 3 then A 32 else if k.toInt = 4 then A 33 else if k.toInt = 5 then A 34 else z) = A (29 + k.toNatClampNeg) := by
  have c := kw_clampI h0
  rcases (show k.toInt = 0 ∨ k.toInt = 1 ∨ k.toInt = 2 ∨ k.toInt = 3 ∨ k.toInt = 4 ∨ k.toInt = 5 by omega) with h | h | h | h | h | h
  · rw [show k.toNatClampNeg = 0 by omega]
    simp [h]
  · rw [show k.toNatClampNeg = 1 by omega]
    simp [h]
  · rw [show k.toNatClampNeg = 2 by omega]
    simp [h]
  · rw [show k.toNatClampNeg = 3 by omega]
    simp [h]
  · rw [show k.toNatClampNeg = 4 by omega]
    simp [h]
  · rw [show k.toNatClampNeg = 5 by omega]
    simp [h]
theorem kp_value1 (σ : kw_S) (hb : ∀ j : Nat, -1 ≤ (σ.1 13 j).toInt ∧ (σ.1 13 j).toInt ≤ 40) (k i : Int32) : f_X3_valueAt_1 σ k i = if 0 ≤ k.toInt ∧ k.toInt < 6 ∧ 0 ≤ i.toInt ∧ i.toInt < (σ.1 13 k.toNatClampNeg).toInt then σ.1 (29 + k.toNatClampNeg) i.toNatClampNeg else 1000 := by
  rw [f_X3_valueAt_1_u]
  simp only [kf_lx]
  rw [kp_places1 σ hb k i 1 (by decide) (by decide), kp_q1]
  by_cases h : 0 ≤ k.toInt ∧ k.toInt < 6 ∧ 0 ≤ i.toInt ∧ i.toInt < (σ.1 13 k.toNatClampNeg).toInt
  · rw [if_pos (show 0 ≤ k.toInt ∧ k.toInt < 6 ∧ 0 ≤ i.toInt ∧ i.toInt + 1 ≤ (σ.1 13 k.toNatClampNeg).toInt by omega), if_neg (by decide), if_pos h]
    exact kp_row1 k h.1 h.2.1 (fun a => σ.1 a i.toNatClampNeg) 0
  · rw [if_neg (show ¬ (0 ≤ k.toInt ∧ k.toInt < 6 ∧ 0 ≤ i.toInt ∧ i.toInt + 1 ≤ (σ.1 13 k.toNatClampNeg).toInt) by omega), if_pos (by decide), if_neg h]
theorem kp_change1 (σ : kw_S) (hb : ∀ j : Nat, -1 ≤ (σ.1 13 j).toInt ∧ (σ.1 13 j).toInt ≤ 40) (k i v : Int32) : f_X3_change_1 σ k i v = if 0 ≤ k.toInt ∧ k.toInt < 6 ∧ 0 ≤ i.toInt ∧ i.toInt < (σ.1 13 k.toNatClampNeg).toInt then kw_ui σ (29 + k.toNatClampNeg) i.toNatClampNeg v else σ := by
  rw [f_X3_change_1_u]
  simp only [kf_lx]
  rw [kp_places1 σ hb k i 1 (by decide) (by decide), kp_q1]
  by_cases h : 0 ≤ k.toInt ∧ k.toInt < 6 ∧ 0 ≤ i.toInt ∧ i.toInt < (σ.1 13 k.toNatClampNeg).toInt
  · rw [if_pos (show 0 ≤ k.toInt ∧ k.toInt < 6 ∧ 0 ≤ i.toInt ∧ i.toInt + 1 ≤ (σ.1 13 k.toNatClampNeg).toInt by omega), if_neg (by decide), if_pos h]
    exact kp_row1 k h.1 h.2.1 (fun a => kw_ui σ a i.toNatClampNeg v) σ
  · rw [if_neg (show ¬ (0 ≤ k.toInt ∧ k.toInt < 6 ∧ 0 ≤ i.toInt ∧ i.toInt + 1 ≤ (σ.1 13 k.toNatClampNeg).toInt) by omega), if_pos (by decide), if_neg h]
theorem kp_make1 (σ : kw_S) (hr : (σ.1 1 0).toInt = 40) (k n v : Int32) (h0 : 0 ≤ k.toInt) (h1 : k.toInt < 6) (h2 : 0 ≤ n.toInt) (h3 : n.toInt ≤ 40) : f_X3_make_1 σ k n v = kw_ua (kw_ui σ 13 k.toNatClampNeg n) (29 + k.toNatClampNeg) (fun j => if j < 40 then v else σ.1 (29 + k.toNatClampNeg) j) := by
  rw [f_X3_make_1_u]
  simp only [kf_lx, kp_has1]
  rw [if_pos (show 0 ≤ k.toInt ∧ k.toInt < 6 from ⟨h0, h1⟩), if_neg (by decide), if_neg (by omega), if_neg (by omega)]
  simp only [kp_fill29, kp_fill30, kp_fill31, kp_fill32, kp_fill33, kp_fill34]
  have c := kw_clampI h0
  have g : ∀ a : Nat, a ≠ 13 → (kw_ui σ 13 k.toNatClampNeg n).1 a = σ.1 a := fun a ha => by funext j; rw [kp_ui, if_neg (by omega)]
  simp only [g 29 (by decide), g 30 (by decide), g 31 (by decide), g 32 (by decide), g 33 (by decide), g 34 (by decide)]
  exact kp_row1 k h0 h1 (fun a => kw_ua (kw_ui σ 13 k.toNatClampNeg n) a (fun j => if j < 40 then v else σ.1 a j)) _
theorem kp_find1 (σ : kw_S) (hb : ∀ j : Nat, -1 ≤ (σ.1 13 j).toInt ∧ (σ.1 13 j).toInt ≤ 40) (k i : Int32) (h0 : 0 ≤ k.toInt) (h1 : k.toInt < 6) : f_X3_findingAt_1 σ k i = if (σ.1 13 k.toNatClampNeg).toInt < 0 then 1 else if 0 ≤ i.toInt ∧ i.toInt < (σ.1 13 k.toNatClampNeg).toInt then 0 else 2 := by
  rw [f_X3_findingAt_1_u]
  simp only [kf_lx, kp_miss1]
  rw [kp_places1 σ hb k i 1 (by decide) (by decide), kp_q1]
  by_cases h : (σ.1 13 k.toNatClampNeg).toInt < 0
  · rw [if_neg (show ¬ (0 ≤ k.toInt ∧ k.toInt < 6 ∧ 0 ≤ (σ.1 13 k.toNatClampNeg).toInt) by omega), if_neg (by decide), if_pos h]
  · rw [if_pos (show 0 ≤ k.toInt ∧ k.toInt < 6 ∧ 0 ≤ (σ.1 13 k.toNatClampNeg).toInt by omega), if_pos (by decide), if_neg h]
    by_cases h2 : 0 ≤ i.toInt ∧ i.toInt < (σ.1 13 k.toNatClampNeg).toInt
    · rw [if_pos (show 0 ≤ k.toInt ∧ k.toInt < 6 ∧ 0 ≤ i.toInt ∧ i.toInt + 1 ≤ (σ.1 13 k.toNatClampNeg).toInt by omega), if_neg (by decide), if_pos h2]
    · rw [if_neg (show ¬ (0 ≤ k.toInt ∧ k.toInt < 6 ∧ 0 ≤ i.toInt ∧ i.toInt + 1 ≤ (σ.1 13 k.toNatClampNeg).toInt) by omega), if_pos (by decide), if_neg h2]
theorem kp_has2 (σ : kw_S) (k : Int32) : f_X3_has_2 σ k = if 0 ≤ k.toInt ∧ k.toInt < 4 then 1 else 0 := by
  have q : (4 : Int32).toInt = 4 := rfl
  rw [f_X3_has_2_u]
  by_cases h : k.toInt < 0
  · rw [if_pos h, if_neg (by omega)]
  · rw [if_neg h]
    by_cases h2 : k.toInt < 4
    · rw [if_pos (by omega), if_pos (by omega)]
    · rw [if_neg (by omega), if_neg (by omega)]
theorem kp_size2 (σ : kw_S) (k : Int32) : f_X3_sizeOf_2 σ k = if 0 ≤ k.toInt ∧ k.toInt < 4 then σ.1 15 k.toNatClampNeg else -1 := by
  rw [f_X3_sizeOf_2_u]
  simp only [kf_lx, kp_has2]
  by_cases h : 0 ≤ k.toInt ∧ k.toInt < 4
  · simp only [if_pos h, kp_q1]; rfl
  · simp only [if_neg h, kp_q0]; rfl
theorem kp_miss2 (σ : kw_S) (k : Int32) : f_X3_isMissing_2 σ k = if 0 ≤ k.toInt ∧ k.toInt < 4 ∧ 0 ≤ (σ.1 15 k.toNatClampNeg).toInt then 0 else 1 := by
  rw [f_X3_isMissing_2_u]
  simp only [kf_lx, kp_size2]
  by_cases h : 0 ≤ k.toInt ∧ k.toInt < 4
  · simp only [if_pos h]
    by_cases h2 : (σ.1 15 k.toNatClampNeg).toInt < 0
    · rw [if_pos h2, if_neg (by omega)]
    · rw [if_neg h2, if_pos (by omega)]
  · simp only [if_neg h]
    rw [if_pos (by decide), if_neg (by omega)]
theorem kp_places2 (σ : kw_S) (hb : ∀ j : Nat, -1 ≤ (σ.1 15 j).toInt ∧ (σ.1 15 j).toInt ≤ 60) (k f n : Int32) (hn : 0 ≤ n.toInt) (hn2 : n.toInt ≤ 1000000) : f_X3_hasPlaces_2 σ k f n = if 0 ≤ k.toInt ∧ k.toInt < 4 ∧ 0 ≤ f.toInt ∧ f.toInt + n.toInt ≤ (σ.1 15 k.toNatClampNeg).toInt then 1 else 0 := by
  rw [f_X3_hasPlaces_2_u]
  simp only [kf_lx, kp_has2]
  have hb := hb k.toNatClampNeg
  have e := kw_subI (σ.1 15 k.toNatClampNeg) n
  by_cases h : 0 ≤ k.toInt ∧ k.toInt < 4
  · rw [if_pos h, if_neg (by decide)]
    by_cases hf : f.toInt < 0
    · rw [if_pos hf, if_neg (by omega)]
    · rw [if_neg hf, if_neg (by omega)]
      by_cases h3 : (σ.1 15 k.toNatClampNeg - n).toInt < f.toInt
      · rw [if_pos h3, if_neg (by omega)]
      · rw [if_neg h3, if_pos (by omega)]
  · rw [if_neg h, if_pos (by decide), if_neg (by omega)]
theorem kp_row2 (k : Int32) (h0 : 0 ≤ k.toInt) (h1 : k.toInt < 4) {β : Type} (A : Nat → β) (z : β) : (if k.toInt = 0 then A 35 else if k.toInt = 1 then A 36 else if k.toInt = 2 then A 37 else if k.toInt = 3 then A 38 else z) = A (35 + k.toNatClampNeg) := by
  have c := kw_clampI h0
  rcases (show k.toInt = 0 ∨ k.toInt = 1 ∨ k.toInt = 2 ∨ k.toInt = 3 by omega) with h | h | h | h
  · rw [show k.toNatClampNeg = 0 by omega]
    simp [h]
  · rw [show k.toNatClampNeg = 1 by omega]
    simp [h]
  · rw [show k.toNatClampNeg = 2 by omega]
    simp [h]
  · rw [show k.toNatClampNeg = 3 by omega]
    simp [h]
theorem kp_value2 (σ : kw_S) (hb : ∀ j : Nat, -1 ≤ (σ.1 15 j).toInt ∧ (σ.1 15 j).toInt ≤ 60) (k i : Int32) : f_X3_valueAt_2 σ k i = if 0 ≤ k.toInt ∧ k.toInt < 4 ∧ 0 ≤ i.toInt ∧ i.toInt < (σ.1 15 k.toNatClampNeg).toInt then σ.1 (35 + k.toNatClampNeg) i.toNatClampNeg else 1000 := by
  rw [f_X3_valueAt_2_u]
  simp only [kf_lx]
  rw [kp_places2 σ hb k i 1 (by decide) (by decide), kp_q1]
  by_cases h : 0 ≤ k.toInt ∧ k.toInt < 4 ∧ 0 ≤ i.toInt ∧ i.toInt < (σ.1 15 k.toNatClampNeg).toInt
  · rw [if_pos (show 0 ≤ k.toInt ∧ k.toInt < 4 ∧ 0 ≤ i.toInt ∧ i.toInt + 1 ≤ (σ.1 15 k.toNatClampNeg).toInt by omega), if_neg (by decide), if_pos h]
    exact kp_row2 k h.1 h.2.1 (fun a => σ.1 a i.toNatClampNeg) 0
  · rw [if_neg (show ¬ (0 ≤ k.toInt ∧ k.toInt < 4 ∧ 0 ≤ i.toInt ∧ i.toInt + 1 ≤ (σ.1 15 k.toNatClampNeg).toInt) by omega), if_pos (by decide), if_neg h]
theorem kp_change2 (σ : kw_S) (hb : ∀ j : Nat, -1 ≤ (σ.1 15 j).toInt ∧ (σ.1 15 j).toInt ≤ 60) (k i v : Int32) : f_X3_change_2 σ k i v = if 0 ≤ k.toInt ∧ k.toInt < 4 ∧ 0 ≤ i.toInt ∧ i.toInt < (σ.1 15 k.toNatClampNeg).toInt then kw_ui σ (35 + k.toNatClampNeg) i.toNatClampNeg v else σ := by
  rw [f_X3_change_2_u]
  simp only [kf_lx]
  rw [kp_places2 σ hb k i 1 (by decide) (by decide), kp_q1]
  by_cases h : 0 ≤ k.toInt ∧ k.toInt < 4 ∧ 0 ≤ i.toInt ∧ i.toInt < (σ.1 15 k.toNatClampNeg).toInt
  · rw [if_pos (show 0 ≤ k.toInt ∧ k.toInt < 4 ∧ 0 ≤ i.toInt ∧ i.toInt + 1 ≤ (σ.1 15 k.toNatClampNeg).toInt by omega), if_neg (by decide), if_pos h]
    exact kp_row2 k h.1 h.2.1 (fun a => kw_ui σ a i.toNatClampNeg v) σ
  · rw [if_neg (show ¬ (0 ≤ k.toInt ∧ k.toInt < 4 ∧ 0 ≤ i.toInt ∧ i.toInt + 1 ≤ (σ.1 15 k.toNatClampNeg).toInt) by omega), if_pos (by decide), if_neg h]
theorem kp_make2 (σ : kw_S) (hr : (σ.1 2 0).toInt = 60) (k n v : Int32) (h0 : 0 ≤ k.toInt) (h1 : k.toInt < 4) (h2 : 0 ≤ n.toInt) (h3 : n.toInt ≤ 60) : f_X3_make_2 σ k n v = kw_ua (kw_ui σ 15 k.toNatClampNeg n) (35 + k.toNatClampNeg) (fun j => if j < 60 then v else σ.1 (35 + k.toNatClampNeg) j) := by
  rw [f_X3_make_2_u]
  simp only [kf_lx, kp_has2]
  rw [if_pos (show 0 ≤ k.toInt ∧ k.toInt < 4 from ⟨h0, h1⟩), if_neg (by decide), if_neg (by omega), if_neg (by omega)]
  simp only [kp_fill35, kp_fill36, kp_fill37, kp_fill38]
  have c := kw_clampI h0
  have g : ∀ a : Nat, a ≠ 15 → (kw_ui σ 15 k.toNatClampNeg n).1 a = σ.1 a := fun a ha => by funext j; rw [kp_ui, if_neg (by omega)]
  simp only [g 35 (by decide), g 36 (by decide), g 37 (by decide), g 38 (by decide)]
  exact kp_row2 k h0 h1 (fun a => kw_ua (kw_ui σ 15 k.toNatClampNeg n) a (fun j => if j < 60 then v else σ.1 a j)) _
theorem kp_find2 (σ : kw_S) (hb : ∀ j : Nat, -1 ≤ (σ.1 15 j).toInt ∧ (σ.1 15 j).toInt ≤ 60) (k i : Int32) (h0 : 0 ≤ k.toInt) (h1 : k.toInt < 4) : f_X3_findingAt_2 σ k i = if (σ.1 15 k.toNatClampNeg).toInt < 0 then 1 else if 0 ≤ i.toInt ∧ i.toInt < (σ.1 15 k.toNatClampNeg).toInt then 0 else 2 := by
  rw [f_X3_findingAt_2_u]
  simp only [kf_lx, kp_miss2]
  rw [kp_places2 σ hb k i 1 (by decide) (by decide), kp_q1]
  by_cases h : (σ.1 15 k.toNatClampNeg).toInt < 0
  · rw [if_neg (show ¬ (0 ≤ k.toInt ∧ k.toInt < 4 ∧ 0 ≤ (σ.1 15 k.toNatClampNeg).toInt) by omega), if_neg (by decide), if_pos h]
  · rw [if_pos (show 0 ≤ k.toInt ∧ k.toInt < 4 ∧ 0 ≤ (σ.1 15 k.toNatClampNeg).toInt by omega), if_pos (by decide), if_neg h]
    by_cases h2 : 0 ≤ i.toInt ∧ i.toInt < (σ.1 15 k.toNatClampNeg).toInt
    · rw [if_pos (show 0 ≤ k.toInt ∧ k.toInt < 4 ∧ 0 ≤ i.toInt ∧ i.toInt + 1 ≤ (σ.1 15 k.toNatClampNeg).toInt by omega), if_neg (by decide), if_pos h2]
    · rw [if_neg (show ¬ (0 ≤ k.toInt ∧ k.toInt < 4 ∧ 0 ≤ i.toInt ∧ i.toInt + 1 ≤ (σ.1 15 k.toNatClampNeg).toInt) by omega), if_pos (by decide), if_neg h2]
theorem kp_has5 (σ : kw_S) (k : Int32) : f_X3_has_5 σ k = if 0 ≤ k.toInt ∧ k.toInt < 3 then 1 else 0 := by
  have q : (3 : Int32).toInt = 3 := rfl
  rw [f_X3_has_5_u]
  by_cases h : k.toInt < 0
  · rw [if_pos h, if_neg (by omega)]
  · rw [if_neg h]
    by_cases h2 : k.toInt < 3
    · rw [if_pos (by omega), if_pos (by omega)]
    · rw [if_neg (by omega), if_neg (by omega)]
theorem kp_size5 (σ : kw_S) (k : Int32) : f_X3_sizeOf_5 σ k = if 0 ≤ k.toInt ∧ k.toInt < 3 then σ.1 21 k.toNatClampNeg else -1 := by
  rw [f_X3_sizeOf_5_u]
  simp only [kf_lx, kp_has5]
  by_cases h : 0 ≤ k.toInt ∧ k.toInt < 3
  · simp only [if_pos h, kp_q1]; rfl
  · simp only [if_neg h, kp_q0]; rfl
theorem kp_miss5 (σ : kw_S) (k : Int32) : f_X3_isMissing_5 σ k = if 0 ≤ k.toInt ∧ k.toInt < 3 ∧ 0 ≤ (σ.1 21 k.toNatClampNeg).toInt then 0 else 1 := by
  rw [f_X3_isMissing_5_u]
  simp only [kf_lx, kp_size5]
  by_cases h : 0 ≤ k.toInt ∧ k.toInt < 3
  · simp only [if_pos h]
    by_cases h2 : (σ.1 21 k.toNatClampNeg).toInt < 0
    · rw [if_pos h2, if_neg (by omega)]
    · rw [if_neg h2, if_pos (by omega)]
  · simp only [if_neg h]
    rw [if_pos (by decide), if_neg (by omega)]
theorem kp_places5 (σ : kw_S) (hb : ∀ j : Nat, -1 ≤ (σ.1 21 j).toInt ∧ (σ.1 21 j).toInt ≤ 40) (k f n : Int32) (hn : 0 ≤ n.toInt) (hn2 : n.toInt ≤ 1000000) : f_X3_hasPlaces_5 σ k f n = if 0 ≤ k.toInt ∧ k.toInt < 3 ∧ 0 ≤ f.toInt ∧ f.toInt + n.toInt ≤ (σ.1 21 k.toNatClampNeg).toInt then 1 else 0 := by
  rw [f_X3_hasPlaces_5_u]
  simp only [kf_lx, kp_has5]
  have hb := hb k.toNatClampNeg
  have e := kw_subI (σ.1 21 k.toNatClampNeg) n
  by_cases h : 0 ≤ k.toInt ∧ k.toInt < 3
  · rw [if_pos h, if_neg (by decide)]
    by_cases hf : f.toInt < 0
    · rw [if_pos hf, if_neg (by omega)]
    · rw [if_neg hf, if_neg (by omega)]
      by_cases h3 : (σ.1 21 k.toNatClampNeg - n).toInt < f.toInt
      · rw [if_pos h3, if_neg (by omega)]
      · rw [if_neg h3, if_pos (by omega)]
  · rw [if_neg h, if_pos (by decide), if_neg (by omega)]
theorem kp_row5 (k : Int32) (h0 : 0 ≤ k.toInt) (h1 : k.toInt < 3) {β : Type} (A : Nat → β) (z : β) : (if k.toInt = 0 then A 49 else if k.toInt = 1 then A 50 else if k.toInt = 2 then A 51 else z) = A (49 + k.toNatClampNeg) := by
  have c := kw_clampI h0
  rcases (show k.toInt = 0 ∨ k.toInt = 1 ∨ k.toInt = 2 by omega) with h | h | h
  · rw [show k.toNatClampNeg = 0 by omega]
    simp [h]
  · rw [show k.toNatClampNeg = 1 by omega]
    simp [h]
  · rw [show k.toNatClampNeg = 2 by omega]
    simp [h]
theorem kp_value5 (σ : kw_S) (hb : ∀ j : Nat, -1 ≤ (σ.1 21 j).toInt ∧ (σ.1 21 j).toInt ≤ 40) (k i : Int32) : f_X3_valueAt_5 σ k i = if 0 ≤ k.toInt ∧ k.toInt < 3 ∧ 0 ≤ i.toInt ∧ i.toInt < (σ.1 21 k.toNatClampNeg).toInt then σ.1 (49 + k.toNatClampNeg) i.toNatClampNeg else 1000 := by
  rw [f_X3_valueAt_5_u]
  simp only [kf_lx]
  rw [kp_places5 σ hb k i 1 (by decide) (by decide), kp_q1]
  by_cases h : 0 ≤ k.toInt ∧ k.toInt < 3 ∧ 0 ≤ i.toInt ∧ i.toInt < (σ.1 21 k.toNatClampNeg).toInt
  · rw [if_pos (show 0 ≤ k.toInt ∧ k.toInt < 3 ∧ 0 ≤ i.toInt ∧ i.toInt + 1 ≤ (σ.1 21 k.toNatClampNeg).toInt by omega), if_neg (by decide), if_pos h]
    exact kp_row5 k h.1 h.2.1 (fun a => σ.1 a i.toNatClampNeg) 0
  · rw [if_neg (show ¬ (0 ≤ k.toInt ∧ k.toInt < 3 ∧ 0 ≤ i.toInt ∧ i.toInt + 1 ≤ (σ.1 21 k.toNatClampNeg).toInt) by omega), if_pos (by decide), if_neg h]
theorem kp_change5 (σ : kw_S) (hb : ∀ j : Nat, -1 ≤ (σ.1 21 j).toInt ∧ (σ.1 21 j).toInt ≤ 40) (k i v : Int32) : f_X3_change_5 σ k i v = if 0 ≤ k.toInt ∧ k.toInt < 3 ∧ 0 ≤ i.toInt ∧ i.toInt < (σ.1 21 k.toNatClampNeg).toInt then kw_ui σ (49 + k.toNatClampNeg) i.toNatClampNeg v else σ := by
  rw [f_X3_change_5_u]
  simp only [kf_lx]
  rw [kp_places5 σ hb k i 1 (by decide) (by decide), kp_q1]
  by_cases h : 0 ≤ k.toInt ∧ k.toInt < 3 ∧ 0 ≤ i.toInt ∧ i.toInt < (σ.1 21 k.toNatClampNeg).toInt
  · rw [if_pos (show 0 ≤ k.toInt ∧ k.toInt < 3 ∧ 0 ≤ i.toInt ∧ i.toInt + 1 ≤ (σ.1 21 k.toNatClampNeg).toInt by omega), if_neg (by decide), if_pos h]
    exact kp_row5 k h.1 h.2.1 (fun a => kw_ui σ a i.toNatClampNeg v) σ
  · rw [if_neg (show ¬ (0 ≤ k.toInt ∧ k.toInt < 3 ∧ 0 ≤ i.toInt ∧ i.toInt + 1 ≤ (σ.1 21 k.toNatClampNeg).toInt) by omega), if_pos (by decide), if_neg h]
theorem kp_make5 (σ : kw_S) (hr : (σ.1 5 0).toInt = 40) (k n v : Int32) (h0 : 0 ≤ k.toInt) (h1 : k.toInt < 3) (h2 : 0 ≤ n.toInt) (h3 : n.toInt ≤ 40) : f_X3_make_5 σ k n v = kw_ua (kw_ui σ 21 k.toNatClampNeg n) (49 + k.toNatClampNeg) (fun j => if j < 40 then v else σ.1 (49 + k.toNatClampNeg) j) := by
  rw [f_X3_make_5_u]
  simp only [kf_lx, kp_has5]
  rw [if_pos (show 0 ≤ k.toInt ∧ k.toInt < 3 from ⟨h0, h1⟩), if_neg (by decide), if_neg (by omega), if_neg (by omega)]
  simp only [kp_fill49, kp_fill50, kp_fill51]
  have c := kw_clampI h0
  have g : ∀ a : Nat, a ≠ 21 → (kw_ui σ 21 k.toNatClampNeg n).1 a = σ.1 a := fun a ha => by funext j; rw [kp_ui, if_neg (by omega)]
  simp only [g 49 (by decide), g 50 (by decide), g 51 (by decide)]
  exact kp_row5 k h0 h1 (fun a => kw_ua (kw_ui σ 21 k.toNatClampNeg n) a (fun j => if j < 40 then v else σ.1 a j)) _
end
