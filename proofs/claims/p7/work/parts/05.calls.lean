section KWC
variable {l : Launch} {d : Nat} {E : kw_E} {K : List kw_K1} {M : kw_M} {P : Option Value → kw_S → Prop} {pc : Nat} {lv : List (Nat × Value)} {st : List Value} {σ : kw_S}
theorem kw_run {p : Program} {e : Env} {R : Room} {s : State} {m : MethodId} {args : Array Value} {below : List Frame} {meth : Method} {c : Code} {H : Heap} {locs : List Loc} {cells slots : Nat} {Q : State → Prop} {ls : Array Slot} {G : kw_G} {A0 A1 : Nat → Prop} {a : Array Value} {st0 rest : List Value} {P' : Option Value → kw_S → Prop}
    (hr : va_Run p l e R s m args below meth c H locs cells slots 0 0 (F0 m pc ls st0) rest (kw_Q G K P' A1 a) A1) (hS : va_S A0 s.heap H locs) (hA : ∀ q, A1 q → A0 q)
    (kk : ∀ (v : Option Value) (σ' : kw_S) (H1 : Heap) (locs1 : List Loc), P' v σ' → va_P G.2.1 vwCl (kw_W G K σ') H1 → va_S A0 s.heap H1 locs1 → W p l e R s m args below meth c H1 locs1 cells slots Q (F0 m (pc + 3) ls ((v.map (kw_rv G.1)).toList ++ rest))) : W p l e R s m args below meth c H locs cells slots Q (F0 m pc ls st0) := by
  intro T hT X
  obtain ⟨v, st₀, t, T', L, h0, X', hL, e1, e2, ⟨⟨u, σ', hv, hp, hb⟩, hz, hk⟩, stp⟩ := hr T hT X
  cases hv
  rw [h0] at hz hk
  obtain ⟨t2, a1, b1⟩ := kk u σ' T'.heap (locs ++ L) hp (by rw [e1]; exact hb)
    ⟨Nat.le_trans hS.1 (by rw [e1]; exact hz), fun q h1 h2 => by rw [e1, hk q (Nat.lt_of_lt_of_le h1 hS.1) (fun z => h2 (hA q z))]; exact hS.2.1 q h1 h2, fun q hq => by
      rcases List.mem_append.mp hq with h | h
      · exact hS.2.2 q h
      · exact hA _ (hL q h)⟩ T' rfl X'
  exact ⟨t2, stp t2 a1, b1⟩
theorem kw_free {G : kw_G} {A : Nat → Prop} {s : State} {H : Heap} {locs : List Loc} (hD : va_D A (kw_W G K σ)) (hS : va_S A s.heap H locs) (hA : ∀ q : Nat, s.heap.size ≤ q → A q) : ∀ q, va_A (kw_W G K σ) H.size q → A q := by
  intro q h
  rcases h with ⟨k, e, h⟩ | h
  · exact hD.2 k (q, e) h
  · exact hA q (Nat.le_trans hS.1 h)
theorem kw_catsum (ad : Nat → Nat) : ∀ st : List Value, ((st.map (kw_rv ad)).map fun v => v.category).sum = (st.map fun v => v.category).sum
  | [] => rfl
  | v :: st => by simp only [List.map_cons, List.sum_cons, kw_cat]; rw [kw_catsum ad st]
/-- the words of a call of an instance's method; of a static one; of a nest mate's static one -/
def kw_lkV (own : String) (idx ci : Nat) (Y : kw_M) : Prop := (∃ (T : u_T) (N : Nat), vwCl[ci]? = some (Y.1.2.1.cls, T, N)) ∧ Cond.methodLink own idx Y.1.2.1 ∈ kw_ws ∧ Cond.instanceMethod Y.1.2.1 ∈ kw_ws ∧ Cond.selects Y.1.2.1.cls Y.1.2.1 Y.1.2.1 ∈ kw_ws ∧ Cond.initialized Y.1.2.1.cls ∈ kw_ws ∧ Cond.code Y.1.2.1 Y.1.2.2.1 Y.1.2.2.2.1 Y.1.2.2.2.2 ∈ kw_ws ∧ Y.1.2.1.cls ≠ "java/lang/invoke/MethodHandle" ∧ Y.1.2.1.cls ≠ "java/lang/invoke/VarHandle" ∧ Y.1.2.2.2.1 ≤ 41
def kw_lkS (own : String) (idx : Nat) (Y : kw_M) : Prop := Cond.methodLink own idx Y.1.2.1 ∈ kw_ws ∧ Cond.static Y.1.2.1 ∈ kw_ws ∧ Cond.initialized Y.1.2.1.cls ∈ kw_ws ∧ Cond.code Y.1.2.1 Y.1.2.2.1 Y.1.2.2.2.1 Y.1.2.2.2.2 ∈ kw_ws ∧ Y.1.2.1.cls ≠ "java/lang/invoke/MethodHandle" ∧ Y.1.2.1.cls ≠ "java/lang/invoke/VarHandle" ∧ Y.1.2.2.2.1 ≤ 41
def kw_lkN (own : String) (idx : Nat) (Y : kw_M) : Prop := (own, idx, Y.1.2.1) ∈ kw_NM ∧ Cond.static Y.1.2.1 ∈ kw_ws ∧ Cond.initialized Y.1.2.1.cls ∈ kw_ws ∧ Cond.code Y.1.2.1 Y.1.2.2.1 Y.1.2.2.2.1 Y.1.2.2.2.2 ∈ kw_ws ∧ Y.1.2.1.cls ≠ "java/lang/invoke/MethodHandle" ∧ Y.1.2.1.cls ≠ "java/lang/invoke/VarHandle" ∧ Y.1.2.2.2.1 ≤ 41
theorem kw_goodw {w : Cond} (h : w ∈ kw_ws) : w ∈ kw_ws ∧ ((w.onTables && w.keeps) = true ∨ ∃ ty, w = .arrayClass ty) := ⟨h, good_of_word (List.mem_filter.mp h).2⟩
theorem kw_pre {G : kw_G} {A : Nat → Prop} {p : Program} {s : State} {m : MethodId} {args : Array Value} {meth : Method} {c : Code} {H : Heap} {locs : List Loc} {ls : Array Slot} (Cx : kw_Cx E M G A p s m args meth c) (Sx : kw_Sx K M G A s H locs ls lv σ) (hE : ∀ q ∈ kw_E0, q ∈ E) (As : List Value) : ∀ U : State, U.heap = H → s.WarmedH U.vm → kw_Pre G K σ H.size As (As.map (kw_rv G.1)).toArray U := by
  intro U hU hW
  refine ⟨rfl, by rw [hU], by rw [hU]; exact Sx.1, va_K.moved hW.alike Cx.2.2.2.2.2.2.2.1, Sx.2.1.weaken (fun _ _ _ _ => trivial), ?_⟩
  rw [hU]
  exact Cx.2.2.2.2.2.2.2.2.2.1.next hE hW Sx.2.2.1 (kw_free Sx.2.1 Sx.2.2.1 Cx.2.2.2.2.2.2.2.2.1)
theorem kw_callV {i idx ci a d' : Nat} {fs : List Value} {Y : kw_M} {As st0 : List Value} {P' : Option Value → kw_S → Prop} (hE : ∀ q ∈ kw_E0, q ∈ E) (hi : M.2[i]? = some (pc, .invokevirtual idx, 3)) (hk : K[a]? = some (.inr (ci, fs))) (hl : kw_lkV M.1.1 idx ci Y) (hn : (parseMethodDescriptor Y.1.2.1.desc).map (fun d => d.parameters.length) = some As.length) (hM : kw_Met l d' K Y (.ref a :: As) σ P') (hd : d' < d) (hc : (st.map fun v => v.category).sum ≤ 8) (hst : st0 = As.reverse ++ .ref a :: st)
    (kk : ∀ (v : Option Value) (σ' : kw_S), P' v σ' → kw_AW l d E K M P (pc + 3) lv (v.toList ++ st) σ') : kw_AW l d E K M P pc lv st0 σ := by
  intro p e R s m args below meth c H locs cells slots Q ls G A Cx Sx Rx Fx
  obtain ⟨⟨T, N, h1⟩, h2, h3, h4, h5, h6, h7, h8, h9⟩ := hl
  have hT : GoodIn kw_ws (wsV M.1.1 idx Y.1.2.1.cls Y.1.2.1 (.code Y.1.2.1 Y.1.2.2.1 Y.1.2.2.2.1 Y.1.2.2.2.2 :: kw_ws)) := by
    intro w hw
    rcases List.mem_append.mp hw with q | q
    · simp only [List.mem_cons, List.not_mem_nil, or_false] at q
      rcases q with rfl | rfl | rfl | rfl
      · exact kw_goodw h2
      · exact kw_goodw h3
      · exact kw_goodw h4
      · exact kw_goodw h5
    · rcases List.mem_cons.mp q with rfl | q
      · exact kw_goodw h6
      · exact kw_goodw q
  have cw := cwV (R := R) (own := M.1.1) (index := idx) (C := Y.1.2.1.cls) (y := Y.1.2.1) (rm := kw_rm d') (mc := 0) (ms := 0) As.length Cx.2.2.2.2.2.2.1 hT rfl rfl rfl ⟨rfl, h7, h8, hn⟩ ⟨by show d' + 1 ≤ _; omega, by show _ + 60 * d' ≤ _; omega⟩
  have hrec := va_recv (q := (Y.1.2.1.cls, T, N)) Cx.2.2.2.2.2.2.2.1 Sx.1 h1 (kw_W_at hk)
  have hrun := va_runV (g := F0 m pc ls (st0.map (kw_rv G.1))) (b := G.1 a) (As := As.map (kw_rv G.1)) (rest := st.map (kw_rv G.1)) (cells := cells) (slots := slots) (locs := locs) (e := e) (below := below) (meth := meth) ⟨Cx.1, Cx.2.1, Cx.2.2.2.2.1, Cx.2.2.2.2.2.1, Cx.2.2.2.2.2.2.1⟩ (hM G H.size) cw ⟨kw_blind, hrec, kw_pre Cx Sx hE (.ref a :: As)⟩ rfl (by simp) Sx.2.2.2.1 (by rw [hst]; simp [kw_rv]) (by rw [kw_catsum]; exact lv_room (rest := st0.map (kw_rv G.1)) hc) (kw_dec Cx hi) ⟨Rx.2.2.1, Rx.2.2.2⟩
  refine kw_run hrun Sx.2.2.1 (kw_free Sx.2.1 Sx.2.2.1 Cx.2.2.2.2.2.2.2.2.1) (fun v σ' H1 locs1 hP' hP1 hS1 => ?_)
  have hh := kk v σ' hP' p e R s m args below meth c H1 locs1 cells slots Q ls G A Cx ⟨hP1, kw_D σ' Sx.2.1, hS1, Sx.2.2.2⟩ Rx Fx
  cases v <;> exact hh
theorem kw_callS {i idx d' : Nat} {Y : kw_M} {As st0 : List Value} {P' : Option Value → kw_S → Prop} (hE : ∀ q ∈ kw_E0, q ∈ E) (hi : M.2[i]? = some (pc, .invokestatic idx, 3)) (hl : kw_lkS M.1.1 idx Y) (hn : (parseMethodDescriptor Y.1.2.1.desc).map (fun d => d.parameters.length) = some As.length) (hM : kw_Met l d' K Y As σ P') (hd : d' < d) (hc : (st.map fun v => v.category).sum ≤ 8) (hst : st0 = As.reverse ++ st)
    (kk : ∀ (v : Option Value) (σ' : kw_S), P' v σ' → kw_AW l d E K M P (pc + 3) lv (v.toList ++ st) σ') : kw_AW l d E K M P pc lv st0 σ := by
  intro p e R s m args below meth c H locs cells slots Q ls G A Cx Sx Rx Fx
  obtain ⟨h2, h3, h5, h6, h7, h8, h9⟩ := hl
  have hT : GoodIn kw_ws (va_wsS M.1.1 idx Y.1.2.1 (.code Y.1.2.1 Y.1.2.2.1 Y.1.2.2.2.1 Y.1.2.2.2.2 :: kw_ws)) := by
    intro w hw
    rcases List.mem_append.mp hw with q | q
    · simp only [List.mem_cons, List.not_mem_nil, or_false] at q
      rcases q with rfl | rfl | rfl
      · exact kw_goodw h2
      · exact kw_goodw h3
      · exact kw_goodw h5
    · rcases List.mem_cons.mp q with rfl | q
      · exact kw_goodw h6
      · exact kw_goodw q
  have cw := va_cwS (R := R) (own := M.1.1) (index := idx) (y := Y.1.2.1) (rm := kw_rm d') (mc := 0) (ms := 0) As.length Cx.2.2.2.2.2.2.1 hT rfl rfl rfl ⟨h7, h8, hn⟩ ⟨by show d' + 1 ≤ _; omega, by show _ + 60 * d' ≤ _; omega⟩
  have hrun := va_runS (g := F0 m pc ls (st0.map (kw_rv G.1))) (As := As.map (kw_rv G.1)) (rest := st.map (kw_rv G.1)) (cells := cells) (slots := slots) (locs := locs) (e := e) (below := below) (meth := meth) ⟨Cx.1, Cx.2.1, Cx.2.2.2.2.1, Cx.2.2.2.2.2.1, Cx.2.2.2.2.2.2.1⟩ (hM G H.size) cw ⟨kw_blind, kw_pre Cx Sx hE As⟩ rfl (by simp) Sx.2.2.2.1 (by rw [hst]; simp) (by rw [kw_catsum]; exact lv_room (rest := st0.map (kw_rv G.1)) hc) (kw_dec Cx hi) ⟨Rx.2.2.1, Rx.2.2.2⟩
  refine kw_run hrun Sx.2.2.1 (kw_free Sx.2.1 Sx.2.2.1 Cx.2.2.2.2.2.2.2.2.1) (fun v σ' H1 locs1 hP' hP1 hS1 => ?_)
  have hh := kk v σ' hP' p e R s m args below meth c H1 locs1 cells slots Q ls G A Cx ⟨hP1, kw_D σ' Sx.2.1, hS1, Sx.2.2.2⟩ Rx Fx
  cases v <;> exact hh
theorem kw_callN {i idx d' : Nat} {Y : kw_M} {As st0 : List Value} {P' : Option Value → kw_S → Prop} (hE : ∀ q ∈ kw_E0, q ∈ E) (hi : M.2[i]? = some (pc, .invokestatic idx, 3)) (hl : kw_lkN M.1.1 idx Y) (hn : (parseMethodDescriptor Y.1.2.1.desc).map (fun d => d.parameters.length) = some As.length) (hM : kw_Met l d' K Y As σ P') (hd : d' < d) (hc : (st.map fun v => v.category).sum ≤ 8) (hst : st0 = As.reverse ++ st)
    (kk : ∀ (v : Option Value) (σ' : kw_S), P' v σ' → kw_AW l d E K M P (pc + 3) lv (v.toList ++ st) σ') : kw_AW l d E K M P pc lv st0 σ := by
  intro p e R s m args below meth c H locs cells slots Q ls G A Cx Sx Rx Fx
  obtain ⟨h2, h3, h5, h6, h7, h8, h9⟩ := hl
  have hT : GoodIn kw_ws (.code Y.1.2.1 Y.1.2.2.1 Y.1.2.2.2.1 Y.1.2.2.2.2 :: kw_ws) := by
    intro w hw
    rcases List.mem_cons.mp hw with rfl | q
    · exact kw_goodw h6
    · exact kw_goodw q
  have cw := va_cnB (R := R) (s := s) (args := args) (own := M.1.1) (host := "WashSails") (index := idx) (y := Y.1.2.1) (rm := kw_rm d') (mc := 0) (ms := 0) As.length Cx.2.2.2.2.2.2.1 hT rfl rfl rfl (Cx.2.2.2.2.2.2.2.2.2.1.2.2.2.1 _ h2) (Cx.2.2.2.2.2.2.1 _ h5) ⟨h7, h8, hn⟩ ⟨by show d' + 1 ≤ _; omega, by show _ + 60 * d' ≤ _; omega⟩
  have hrun := va_runSN (g := F0 m pc ls (st0.map (kw_rv G.1))) (As := As.map (kw_rv G.1)) (rest := st.map (kw_rv G.1)) (cells := cells) (slots := slots) (locs := locs) (e := e) (below := below) (meth := meth) ⟨Cx.1, Cx.2.1, Cx.2.2.2.2.1, Cx.2.2.2.2.2.1, Cx.2.2.2.2.2.2.1⟩ (hM G H.size) ⟨cw, Cx.2.2.2.2.2.2.1 _ h3, trivial⟩ ⟨kw_blind, kw_pre Cx Sx hE As⟩ rfl (by simp) Sx.2.2.2.1 (by rw [hst]; simp) (by rw [kw_catsum]; exact lv_room (rest := st0.map (kw_rv G.1)) hc) (kw_dec Cx hi) ⟨Rx.2.2.1, Rx.2.2.2⟩
  refine kw_run hrun Sx.2.2.1 (kw_free Sx.2.1 Sx.2.2.1 Cx.2.2.2.2.2.2.2.2.1) (fun v σ' H1 locs1 hP' hP1 hS1 => ?_)
  have hh := kk v σ' hP' p e R s m args below meth c H1 locs1 cells slots Q ls G A Cx ⟨hP1, kw_D σ' Sx.2.1, hS1, Sx.2.2.2⟩ Rx Fx
  cases v <;> exact hh
/-- System.arraycopy of ints -/
def kw_lkA (own : String) (idx : Nat) : Prop := Cond.methodLink own idx arraycopyName ∈ kw_ws ∧ Cond.native arraycopyName ∈ kw_ws ∧ Cond.static arraycopyName ∈ kw_ws ∧ Cond.initialized "java/lang/System" ∈ kw_ws
theorem kw_copy {i idx a b n m_ : Nat} {sp dp k : Int32} (hi : M.2[i]? = some (pc, .invokestatic idx, 3)) (hl : kw_lkA M.1.1 idx) (ha : K[a]? = some (.inl (.inl n))) (hb : K[b]? = some (.inl (.inl m_))) (h0 : 0 ≤ sp.toInt) (h1 : 0 ≤ dp.toInt) (h2 : 0 ≤ k.toInt) (h3 : sp.toInt + k.toInt ≤ n) (h4 : dp.toInt + k.toInt ≤ m_) (hd : 1 < d) (hc : (st.map fun v => v.category).sum ≤ 8)
    (h : kw_AW l d E K M P (pc + 3) lv st (kw_ua σ b (va_cpy (σ.1 a) (σ.1 b) sp.toNatClampNeg dp.toNatClampNeg k.toNatClampNeg))) : kw_AW l d E K M P pc lv (.int k :: .int dp :: .ref b :: .int sp :: .ref a :: st) σ := by
  intro p e R s m args below meth c H locs cells slots Q ls G A Cx Sx Rx Fx
  obtain ⟨g1, g2, g3, g4⟩ := hl
  have hts := Cx.2.2.2.2.2.2.1
  have nn : ∀ z : Int32, 0 ≤ z.toInt → ¬ z < 0 := fun z hz q => by
    have e0 : (0 : Int32).toInt = 0 := rfl
    have := Int32.lt_iff_toInt_lt.mp q
    omega
  have c0 := kw_clampI h0
  have c1 := kw_clampI h1
  have c2 := kw_clampI h2
  refine va_copyi (D := G.2.1) (n0 := n) (n1 := m_) (f := σ.1 a) (g := σ.1 b) (ty := .int) Cx.1 Cx.2.1 (Cx.2.2.2.2.1.trans Sx.2.2.2.1.symm) Cx.2.2.2.2.2.1 (hts _ g1) (hts _ g2) (hts _ g3) (hts _ g4) Cx.2.2.2.2.2.2.2.1 Sx.1 Sx.2.1 Sx.2.2.1 a b 0 0 (kw_W_at ha) (kw_W_at hb) rfl rfl rfl (nn _ h0) (nn _ h1) (nn _ h2) (by omega) (by omega) (fun _ _ => rfl) (by omega) ?_ (kw_dec Cx hi) (fun H1 locs1 hP hD hS => ?_)
  · rw [kw_catsum]
    have : nativeFrameWords "java/lang/System" "arraycopy" 5 + 11 ≤ 100 := by first | (set_option maxRecDepth 100000 in exact Nat.le_of_ble_eq_true rfl) | decide +kernel
    omega
  · rw [kw_W_ua hb] at hP hD
    exact h p e R s m args below meth c H1 locs1 cells slots Q ls G A Cx ⟨hP, hD, hS, Sx.2.2.2⟩ Rx Fx
end KWC
