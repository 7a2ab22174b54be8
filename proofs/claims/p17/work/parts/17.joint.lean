/-! ===== the law's world: the class's cells and the reference's, side by side ===== -/
def kw_shK (n : Nat) (k : kw_K1) : kw_K1 := match k with
  | .inl (.inl m) => .inl (.inl m)
  | .inl (.inr (t, rs)) => .inl (.inr (t, rs.map (fun b => n + b)))
  | .inr (ci, fs) => .inr (ci, fs.map (kw_rv (fun b => n + b)))
def kw_sh (n : Nat) (σ : kw_S) : kw_S := (fun a => σ.1 (n + a), fun a => σ.2 (n + a))
def kw_shG (n : Nat) (G : kw_G) : kw_G := (fun a => if a < 1000 then G.1 (n + a) else G.1 a, G.2)
def kw_lowV (v : Value) : Bool := match v with
  | .ref b => decide (b < 1000)
  | _ => true
def kw_low (k : kw_K1) : Bool := match k with
  | .inl (.inl _) => true
  | .inl (.inr (_, rs)) => rs.all (fun b => decide (b < 1000))
  | .inr (_, fs) => fs.all kw_lowV
theorem kw_cell_sh {n : Nat} {G : kw_G} {σ : kw_S} {a : Nat} {k : kw_K1} (hk : kw_low k = true) : kw_cell G σ (n + a) (kw_shK n k) = kw_cell (kw_shG n G) (kw_sh n σ) a k := by
  rcases k with (m | ⟨t, rs⟩) | ⟨ci, fs⟩
  · rfl
  · have e : (fun j : Nat => ((rs.map (fun b => n + b))[j]?).map G.1) = fun j : Nat => (rs[j]?).map (kw_shG n G).1 := by
      funext j
      rw [List.getElem?_map]
      cases h : rs[j]? with
      | none => rfl
      | some b =>
        have hb := List.all_eq_true.mp hk b (List.mem_of_getElem? h)
        have hb' : b < 1000 := of_decide_eq_true hb
        simp [kw_shG, hb']
    show Sum.inl (_, (rs.map _).length, _) = Sum.inl (_, rs.length, _)
    rw [List.length_map, e]
    rfl
  · have e : kw_fill G.1 σ (n + a) (fs.map (kw_rv (fun b => n + b))) = kw_fill (kw_shG n G).1 (kw_sh n σ) a fs := by
      apply List.ext_getElem?
      intro j
      rw [kw_fill_get, kw_fill_get, List.getElem?_map]
      cases h : fs[j]? with
      | none => rfl
      | some v =>
        have hb := List.all_eq_true.mp hk v (List.mem_of_getElem? h)
        cases v with
        | ref b =>
          have hb' : b < 1000 := of_decide_eq_true hb
          simp [kw_rv, kw_fv, kw_shG, hb']
        | _ => rfl
    show Sum.inr (ci, _) = Sum.inr (ci, _)
    rw [e]
def KJ : List kw_K1 := KX ++ KM.map (kw_shK 61)
theorem kw_KXl : KX.length = 61 := by decide +kernel
theorem kw_KMl : KM.length = 23 := by decide +kernel
theorem kw_KMlow : ∀ k ∈ KM, kw_low k = true := by decide +kernel
theorem kw_KJX {k : Nat} (h : k < 61) : KJ[k]? = KX[k]? := List.getElem?_append_left (by rw [kw_KXl]; exact h)
theorem kw_KJM (k : Nat) : KJ[61 + k]? = (KM[k]?).map (kw_shK 61) := by
  unfold KJ
  rw [List.getElem?_append_right (by rw [kw_KXl]; omega), kw_KXl, List.getElem?_map]
  congr 2
  omega
theorem kw_WX {G : kw_G} {σ : kw_S} {k : Nat} {q : Nat × va_E} (h : (kw_W G KX σ)[k]? = some q) : k < 61 ∧ (kw_W G KJ σ)[k]? = some q := by
  have hk : k < 61 := by
    rw [kw_W_get] at h
    cases h1 : KX[k]? with
    | none => rw [h1] at h; cases h
    | some c => rw [← kw_KXl]; exact (List.getElem?_eq_some_iff.mp h1).1
  refine ⟨hk, ?_⟩
  rw [kw_W_get, kw_KJX hk, ← kw_W_get]
  exact h
theorem kw_WM {G : kw_G} {σ : kw_S} {k : Nat} {q : Nat × va_E} (h : (kw_W (kw_shG 61 G) KM (kw_sh 61 σ))[k]? = some q) : (kw_W G KJ σ)[61 + k]? = some q := by
  rw [kw_W_get] at h ⊢
  rw [kw_KJM]
  cases h1 : KM[k]? with
  | none => rw [h1] at h; cases h
  | some c =>
    rw [h1] at h
    have hk : k < 23 := by rw [← kw_KMl]; exact (List.getElem?_eq_some_iff.mp h1).1
    have hlow := kw_KMlow c (List.mem_of_getElem? h1)
    cases h
    simp only [Option.map_some]
    rw [kw_cell_sh hlow]
    simp [kw_shG, show k < 1000 by omega]
def kw_mixX (σ σ' : kw_S) : kw_S := (fun a => if a < 61 then σ'.1 a else σ.1 a, fun a => if a < 61 then σ'.2 a else σ.2 a)
def kw_mixM (σ σ' : kw_S) : kw_S := (fun a => if a < 61 then σ.1 a else σ'.1 (a - 61), fun a => if a < 61 then σ.2 a else σ'.2 (a - 61))
theorem kw_sh_mixX (σ σ' : kw_S) : kw_sh 61 (kw_mixX σ σ') = kw_sh 61 σ := by
  have h : ∀ a : Nat, ¬ 61 + a < 61 := fun a => by omega
  simp [kw_sh, kw_mixX, h]
theorem kw_sh_mixM (σ σ' : kw_S) : kw_sh 61 (kw_mixM σ σ') = σ' := by
  have h : ∀ a : Nat, ¬ 61 + a < 61 := fun a => by omega
  simp [kw_sh, kw_mixM, h]
theorem kw_bX_out {a : Nat} (h : 61 ≤ a) (j : Nat) : bX a j = (-2147483648, 2147483647) := by
  unfold bX
  split <;> first | omega | rfl
theorem kw_IX_mixX {σ σ' : kw_S} (h : kw_I bX σ') : kw_I bX (kw_mixX σ σ') := by
  intro a j
  by_cases ha : a < 61
  · simp only [kw_mixX, ha, if_true]; exact h a j
  · rw [kw_bX_out (by omega)]
    exact ⟨(kw_rng _).1, Int.le_of_lt_add_one (kw_rng _).2⟩
theorem kw_IX_mixM {σ σ' : kw_S} (h : kw_I bX σ) : kw_I bX (kw_mixM σ σ') := by
  intro a j
  by_cases ha : a < 61
  · simp only [kw_mixM, ha, if_true]; exact h a j
  · rw [kw_bX_out (by omega)]
    exact ⟨(kw_rng _).1, Int.le_of_lt_add_one (kw_rng _).2⟩
section KWJ
variable {l : Launch} {d : Nat} {E : kw_E} {M : kw_M} {P : Option Value → kw_S → Prop} {pc : Nat} {lv : List (Nat × Value)} {st : List Value} {σ : kw_S}
theorem kw_run2 {p : Program} {e : Env} {R : Room} {s : State} {m : MethodId} {args : Array Value} {below : List Frame} {meth : Method} {c : Code} {H : Heap} {locs : List Loc} {cells slots : Nat} {Q : State → Prop} {ls : Array Slot} {K : List kw_K1} {G : kw_G} {A0 A1 : Nat → Prop} {a : Array Value} {st0 rest : List Value} {P' : Option Value → kw_S → Prop}
    (hr : va_Run p l e R s m args below meth c H locs cells slots 0 0 (F0 m pc ls st0) rest (kw_Q G K P' A1 a) A1) (hS : va_S A0 s.heap H locs) (hA : ∀ q, A1 q → A0 q)
    (kk : ∀ (v : Option Value) (σ' : kw_S) (H1 : Heap) (locs1 : List Loc), P' v σ' → va_P G.2.1 vwCl (kw_W G K σ') H1 → (∀ q : Nat, q < H.size → ¬ A1 q → H1[q]? = H[q]?) → va_S A0 s.heap H1 locs1 → W p l e R s m args below meth c H1 locs1 cells slots Q (F0 m (pc + 3) ls ((v.map (kw_rv G.1)).toList ++ rest))) : W p l e R s m args below meth c H locs cells slots Q (F0 m pc ls st0) := by
  intro T hT X
  obtain ⟨v, st₀, t, T', L, h0, X', hL, e1, e2, ⟨⟨u, σ', hv, hp, hb⟩, hz, hk⟩, stp⟩ := hr T hT X
  cases hv
  rw [h0] at hz hk
  obtain ⟨t2, a1, b1⟩ := kk u σ' T'.heap (locs ++ L) hp (by rw [e1]; exact hb) (fun q h1 h2 => by rw [e1]; exact hk q h1 h2)
    ⟨Nat.le_trans hS.1 (by rw [e1]; exact hz), fun q h1 h2 => by rw [e1, hk q (Nat.lt_of_lt_of_le h1 hS.1) (fun z => h2 (hA q z))]; exact hS.2.1 q h1 h2, fun q hq => by
      rcases List.mem_append.mp hq with h | h
      · exact hS.2.2 q h
      · exact hA _ (hL q h)⟩ T' rfl X'
  exact ⟨t2, stp t2 a1, b1⟩
theorem kw_goodV {own : String} {idx ci : Nat} {Y : kw_M} (hl : kw_lkV own idx ci Y) : GoodIn kw_ws (wsV own idx Y.1.2.1.cls Y.1.2.1 (.code Y.1.2.1 Y.1.2.2.1 Y.1.2.2.2.1 Y.1.2.2.2.2 :: kw_ws)) := by
  obtain ⟨⟨T, N, h1⟩, h2, h3, h4, h5, h6, h7, h8, h9⟩ := hl
  intro w hw
  rcases List.mem_append.mp hw with q | q
  · simp only [List.mem_cons, List.not_mem_nil, or_false] at q
    rcases q with rfl | rfl | rfl | rfl
    · exact kw_goodw h2
    · exact kw_goodw h3
    · exact kw_goodw h4
    · exact kw_goodw h5
  · rcases List.mem_cons.mp q with rfl | q
    · exact kw_goodw h6
    · exact kw_goodw q
theorem kw_ints (ad ad' : Nat → Nat) (xs : List Int32) : (xs.map Value.int).map (kw_rv ad) = (xs.map Value.int).map (kw_rv ad') := by
  induction xs with
  | nil => rfl
  | cons x xs ih => simp only [List.map_cons] at ih ⊢; rw [ih]; rfl
def kw_intV (v : Option Value) : Prop := ∀ ad ad' : Nat → Nat, v.map (kw_rv ad) = v.map (kw_rv ad')
/-- a call of the class, in the law -/
theorem kw_callX {i idx d' : Nat} {Y : kw_M} {xs : List Int32} {st0 : List Value} {P' : Option Value → kw_S → Prop} (hE : ∀ q ∈ kw_E0, q ∈ E) (hi : M.2[i]? = some (pc, .invokevirtual idx, 3)) (hl : kw_lkV M.1.1 idx 7 Y) (hn : (parseMethodDescriptor Y.1.2.1.desc).map (fun d => d.parameters.length) = some xs.length) (hM : kw_Met l d' KX Y (.ref 0 :: xs.map Value.int) σ P') (hd : d' < d) (hc : (st.map fun v => v.category).sum ≤ 8) (hst : st0 = (xs.map Value.int).reverse ++ .ref 0 :: st)
    (kk : ∀ (v : Option Value) (σ' : kw_S), P' v σ' → kw_AW l d E KJ M P (pc + 3) lv (v.toList ++ st) (kw_mixX σ σ')) : kw_AW l d E KJ M P pc lv st0 σ := by
  intro p e R s m args below meth c H locs cells slots Q ls G A Cx Sx Rx Fx
  have hT := kw_goodV hl
  obtain ⟨⟨T, N, h1⟩, h2, h3, h4, h5, h6, h7, h8, h9⟩ := hl
  have cw := cwV (R := R) (own := M.1.1) (index := idx) (C := Y.1.2.1.cls) (y := Y.1.2.1) (rm := kw_rm d') (mc := 0) (ms := 0) xs.length Cx.2.2.2.2.2.2.1 hT rfl rfl rfl ⟨rfl, h7, h8, hn⟩ ⟨by show d' + 1 ≤ _; omega, by show _ + 60 * d' ≤ _; omega⟩
  have hPX : va_P G.2.1 vwCl (kw_W G KX σ) H := fun k q hk => Sx.1 k q (kw_WX hk).2
  have hDX : va_D A (kw_W G KX σ) := ⟨fun a b p q ha hb hpq => Sx.2.1.1 a b p q (kw_WX ha).2 (kw_WX hb).2 hpq, fun k q hk => Sx.2.1.2 k q (kw_WX hk).2⟩
  have hSxX : kw_Sx KX M G A s H locs ls lv σ := ⟨hPX, hDX, Sx.2.2.1, Sx.2.2.2⟩
  have hk0 : KX[0]? = some (.inr (7, [.ref 1, .ref 2, .ref 3, .ref 4, .ref 5, .ref 6, .ref 7, .ref 8, .ref 9, .ref 10, .ref 11])) := rfl
  have hrec := va_recv (q := (Y.1.2.1.cls, T, N)) Cx.2.2.2.2.2.2.2.1 hPX h1 (kw_W_at hk0)
  have hrun := va_runV (g := F0 m pc ls (st0.map (kw_rv G.1))) (b := G.1 0) (As := (xs.map Value.int).map (kw_rv G.1)) (rest := st.map (kw_rv G.1)) (cells := cells) (slots := slots) (locs := locs) (e := e) (below := below) (meth := meth) ⟨Cx.1, Cx.2.1, Cx.2.2.2.2.1, Cx.2.2.2.2.2.1, Cx.2.2.2.2.2.2.1⟩ (hM G H.size) cw ⟨kw_blind, hrec, kw_pre Cx hSxX hE (.ref 0 :: xs.map Value.int)⟩ rfl (by simp) Sx.2.2.2.1 (by rw [hst]; simp [kw_rv]) (by rw [kw_catsum]; exact lv_room (rest := st0.map (kw_rv G.1)) hc) (kw_dec Cx hi) ⟨Rx.2.2.1, Rx.2.2.2⟩
  refine kw_run2 hrun Sx.2.2.1 (kw_free hDX Sx.2.2.1 Cx.2.2.2.2.2.2.2.2.1) (fun v σ' H1 locs1 hP' hP1 hk1 hS1 => ?_)
  have hPJ : va_P G.2.1 vwCl (kw_W G KJ (kw_mixX σ σ')) H1 := by
    intro k q hk
    by_cases hlt : k < 61
    · have e1 : (kw_W G KJ (kw_mixX σ σ'))[k]? = (kw_W G KX σ')[k]? := by
        rw [kw_W_get, kw_W_get, kw_KJX hlt]
        cases KX[k]? with
        | none => rfl
        | some c => simp only [Option.map_some]; rw [kw_cell_eq (σ := kw_mixX σ σ') (σ' := σ') (by simp [kw_mixX, hlt]) (by simp [kw_mixX, hlt])]
      rw [e1] at hk
      exact hP1 k q hk
    · have e1 : (kw_W G KJ (kw_mixX σ σ'))[k]? = (kw_W G KJ σ)[k]? := by
        rw [kw_W_get, kw_W_get]
        cases KJ[k]? with
        | none => rfl
        | some c => simp only [Option.map_some]; rw [kw_cell_eq (σ := kw_mixX σ σ') (σ' := σ) (by simp [kw_mixX, hlt]) (by simp [kw_mixX, hlt])]
      rw [e1] at hk
      refine (Sx.1 k q hk).kept (hk1 q.1 (Sx.1 k q hk).lt (fun hA => ?_))
      rcases hA with ⟨j, x, hj⟩ | hj
      · obtain ⟨g1, g2⟩ := kw_WX hj
        have := Sx.2.1.1 j k _ q g2 hk rfl
        omega
      · have := (Sx.1 k q hk).lt
        omega
  have hh := kk v σ' hP' p e R s m args below meth c H1 locs1 cells slots Q ls G A Cx ⟨hPJ, kw_D _ Sx.2.1, hS1, Sx.2.2.2⟩ Rx Fx
  cases v <;> exact hh
/-- a call of the reference, in the law -/
theorem kw_callM {i idx d' : Nat} {Y : kw_M} {xs : List Int32} {st0 : List Value} {P' : Option Value → kw_S → Prop} (hE : ∀ q ∈ kw_E0, q ∈ E) (hi : M.2[i]? = some (pc, .invokevirtual idx, 3)) (hl : kw_lkV M.1.1 idx 8 Y) (hn : (parseMethodDescriptor Y.1.2.1.desc).map (fun d => d.parameters.length) = some xs.length) (hM : kw_Met l d' KM Y (.ref 0 :: xs.map Value.int) (kw_sh 61 σ) P') (hd : d' < d) (hc : (st.map fun v => v.category).sum ≤ 8) (hst : st0 = (xs.map Value.int).reverse ++ .ref 61 :: st) (hv : ∀ v σ', P' v σ' → kw_intV v)
    (kk : ∀ (v : Option Value) (σ' : kw_S), P' v σ' → kw_AW l d E KJ M P (pc + 3) lv (v.toList ++ st) (kw_mixM σ σ')) : kw_AW l d E KJ M P pc lv st0 σ := by
  intro p e R s m args below meth c H locs cells slots Q ls G A Cx Sx Rx Fx
  have hT := kw_goodV hl
  obtain ⟨⟨T, N, h1⟩, h2, h3, h4, h5, h6, h7, h8, h9⟩ := hl
  have cw := cwV (R := R) (own := M.1.1) (index := idx) (C := Y.1.2.1.cls) (y := Y.1.2.1) (rm := kw_rm d') (mc := 0) (ms := 0) xs.length Cx.2.2.2.2.2.2.1 hT rfl rfl rfl ⟨rfl, h7, h8, hn⟩ ⟨by show d' + 1 ≤ _; omega, by show _ + 60 * d' ≤ _; omega⟩
  have hPM : va_P G.2.1 vwCl (kw_W (kw_shG 61 G) KM (kw_sh 61 σ)) H := fun k q hk => Sx.1 (61 + k) q (kw_WM hk)
  have hDM : va_D A (kw_W (kw_shG 61 G) KM (kw_sh 61 σ)) := ⟨fun a b p q ha hb hpq => by have := Sx.2.1.1 _ _ p q (kw_WM ha) (kw_WM hb) hpq; omega, fun k q hk => Sx.2.1.2 _ q (kw_WM hk)⟩
  have hk0 : ∃ fs, KM[0]? = some (.inr (8, fs)) := ⟨_, rfl⟩
  obtain ⟨fs, hk0⟩ := hk0
  have hrec := va_recv (q := (Y.1.2.1.cls, T, N)) Cx.2.2.2.2.2.2.2.1 hPM h1 (kw_W_at hk0)
  have hfr := kw_free (G := kw_shG 61 G) (K := KM) (σ := kw_sh 61 σ) hDM Sx.2.2.1 Cx.2.2.2.2.2.2.2.2.1
  have hpre : ∀ U : State, U.heap = H → s.WarmedH U.vm → kw_Pre (kw_shG 61 G) KM (kw_sh 61 σ) H.size (.ref 0 :: xs.map Value.int) ((Value.ref 0 :: xs.map Value.int).map (kw_rv (kw_shG 61 G).1)).toArray U := by
    intro U hU hW
    refine ⟨rfl, by rw [hU], by rw [hU]; exact hPM, va_K.moved hW.alike Cx.2.2.2.2.2.2.2.1, hDM.weaken (fun _ _ _ _ => trivial), ?_⟩
    rw [hU]
    have hst := Cx.2.2.2.2.2.2.2.2.2.1.next (E' := kw_E0) (A' := va_A (kw_W (kw_shG 61 G) KM (kw_sh 61 σ)) H.size) hE hW Sx.2.2.1 hfr
    exact ⟨hst.1, hst.2.1, fun q hq => by
      have hh := hst.2.2.1 q hq
      have hq1 : (kw_shG 61 G).1 q.1 = G.1 q.1 := by
        have : ¬ q.1 < 1000 := by
          have hq' : q ∈ [(1000, 6, kw_LT), (1001, 6, kw_KA)] := hq
          simp only [List.mem_cons, List.not_mem_nil, or_false] at hq'
          rcases hq' with rfl | rfl <;> decide
        simp [kw_shG, this]
      rw [hq1]; exact hh, hst.2.2.2.1, hst.2.2.2.2⟩
  have hgA : (kw_shG 61 G).1 0 = G.1 61 := by simp [kw_shG]
  rw [hgA] at hrec
  have hpre2 : ∀ U : State, U.heap = H → s.WarmedH U.vm → kw_Pre (kw_shG 61 G) KM (kw_sh 61 σ) H.size (.ref 0 :: xs.map Value.int) (Value.ref (G.1 61) :: (xs.map Value.int).map (kw_rv G.1)).toArray U := by
    intro U hU hW
    have hh := hpre U hU hW
    rw [List.map_cons, kw_ints (kw_shG 61 G).1 G.1] at hh
    simp only [kw_rv] at hh
    rw [hgA] at hh
    exact hh
  have hrun := va_runV (g := F0 m pc ls (st0.map (kw_rv G.1))) (b := G.1 61) (As := (xs.map Value.int).map (kw_rv G.1)) (rest := st.map (kw_rv G.1)) (cells := cells) (slots := slots) (locs := locs) (e := e) (below := below) (meth := meth) ⟨Cx.1, Cx.2.1, Cx.2.2.2.2.1, Cx.2.2.2.2.2.1, Cx.2.2.2.2.2.2.1⟩ (hM (kw_shG 61 G) H.size) cw ⟨kw_blind, hrec, hpre2⟩ rfl (by simp) Sx.2.2.2.1 (by rw [hst]; simp [kw_rv]) (by rw [kw_catsum]; exact lv_room (rest := st0.map (kw_rv G.1)) hc) (kw_dec Cx hi) ⟨Rx.2.2.1, Rx.2.2.2⟩
  refine kw_run2 hrun Sx.2.2.1 hfr (fun v σ' H1 locs1 hP' hP1 hk1 hS1 => ?_)
  have hPJ : va_P G.2.1 vwCl (kw_W G KJ (kw_mixM σ σ')) H1 := by
    intro k q hk
    by_cases hlt : k < 61
    · have e1 : (kw_W G KJ (kw_mixM σ σ'))[k]? = (kw_W G KJ σ)[k]? := by
        rw [kw_W_get, kw_W_get]
        cases KJ[k]? with
        | none => rfl
        | some c => simp only [Option.map_some]; rw [kw_cell_eq (σ := kw_mixM σ σ') (σ' := σ) (by simp [kw_mixM, hlt]) (by simp [kw_mixM, hlt])]
      rw [e1] at hk
      refine (Sx.1 k q hk).kept (hk1 q.1 (Sx.1 k q hk).lt (fun hA => ?_))
      rcases hA with ⟨j, x, hj⟩ | hj
      · have g2 := kw_WM hj
        have := Sx.2.1.1 (61 + j) k _ q g2 hk rfl
        omega
      · have := (Sx.1 k q hk).lt
        omega
    · obtain ⟨j, rfl⟩ : ∃ j, k = 61 + j := ⟨k - 61, by omega⟩
      have e1 : (kw_W G KJ (kw_mixM σ σ'))[61 + j]? = (kw_W (kw_shG 61 G) KM σ')[j]? := by
        rw [kw_W_get, kw_W_get, kw_KJM]
        cases h1 : KM[j]? with
        | none => rfl
        | some c =>
          have hj : j < 23 := by rw [← kw_KMl]; exact (List.getElem?_eq_some_iff.mp h1).1
          simp only [Option.map_some]
          rw [kw_cell_sh (kw_KMlow c (List.mem_of_getElem? h1)), kw_sh_mixM]
          simp [kw_shG, show j < 1000 by omega]
      rw [e1] at hk
      exact hP1 j q hk
  have hh := kk v σ' hP' p e R s m args below meth c H1 locs1 cells slots Q ls G A Cx ⟨hPJ, kw_D _ Sx.2.1, hS1, Sx.2.2.2⟩ Rx Fx
  have hv' := hv v σ' hP' (kw_shG 61 G).1 G.1
  rw [hv']
  cases v <;> exact hh
end KWJ
