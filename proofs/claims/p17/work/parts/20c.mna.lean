theorem kw_goodS {own : String} {idx : Nat} {Y : kw_M} (hl : kw_lkS own idx Y) : GoodIn kw_ws (va_wsS own idx Y.1.2.1 (.code Y.1.2.1 Y.1.2.2.1 Y.1.2.2.2.1 Y.1.2.2.2.2 :: kw_ws)) := by
  obtain ⟨h2, h3, h5, h6, h7, h8, h9⟩ := hl
  intro w hw
  rcases List.mem_append.mp hw with q | q
  · simp only [List.mem_cons, List.not_mem_nil, or_false] at q
    rcases q with rfl | rfl | rfl
    · exact kw_goodw h2
    · exact kw_goodw h3
    · exact kw_goodw h5
  · rcases List.mem_cons.mp q with rfl | q
    · exact kw_goodw h6
    · exact kw_goodw q
set_option maxHeartbeats 4000000 in
set_option maxRecDepth 100000 in
/-- Arrays.fill, over one row -/
theorem k_fill (l : Launch) (D : va_G) (cI cII cC : ClassId) (h0 sz n : Nat) (hn : n ≤ 1000) (f : Nat → Int32) (v : Int32) : Met l yJ7_fill_53178 (.code yJ7_fill_53178 cJ7_fill_53178 4 none :: kw_ws) (kc_rm 1 0 0) (kc_Pre D cI cII cC sz [.ref h0, .int v] [(h0, .inl (cI, n, .inl f))]) (va_Qv (fun f' : Nat → Int32 => f' = fun j => if j < n then v else f j) (fun f' t => va_P D vwCl [(h0, .inl (cI, n, .inl f'))] t.heap ∧ va_D (va_A [(h0, .inl (cI, n, .inl f))] sz) [(h0, .inl (cI, n, .inl f'))]) (va_A [(h0, .inl (cI, n, .inl f))] sz)) 0 0 (va_A [(h0, .inl (cI, n, .inl f))] sz) := by
  refine Met.ofW (cc := cJ7_fill_53178) (maxL := 4) (ret := none) (by decide) rfl ?_
  intro p e s m args below meth c s₁ B hml hv
  obtain ⟨rfl, hsz, hP, hK, hD0, hSt⟩ := hv
  have hx := B.exec
  have hb := B.bytes
  have hr := B.returns
  have hlocks := B.notSynchronized
  subst hsz
  have hD := hD0.self (sz := s.heap.size)
  generalize hAe : va_A [(h0, .inl (cI, n, .inl f))] s.heap.size = A at hD ⊢
  have hA : ∀ q : Nat, s.heap.size ≤ q → A q := fun q h => by rw [← hAe]; exact Or.inr h
  have hS : va_S A s.heap s.heap [] := va_S.rf
  have hP : va_P D vwCl [(h0, .inl (cI, n, .inl f))] s.heap := hP
  have hl := lv_entry ([.ref h0, .int v]) (n := 4) (Nat.le_of_ble_eq_true rfl)
  rw [lg_entry_eq]
  generalize (lg_sl ([.ref h0, .int v]) ++ List.replicate (4 - (lg_sl ([.ref h0, .int v])).length) Slot.unset).toArray = ls at hl ⊢
  have hl : lv_has ls 4 [(0, .ref h0), (1, .int v)] := hl
  have hlen : (Int32.ofNat n).toInt = (n : Int) := nI_toInt (by omega)
  refine lv_iconst (v := 0) hx hb dJ7_fill_53178_0 (by decide) ?_
  refine lv_istore_n (lv' := [(2, .int 0), (0, .ref h0), (1, .int v)]) hx hb dJ7_fill_53178_1 rfl hl (by decide) rfl (fun ls hl => ?_)
  refine lv_aload_n hx hb dJ7_fill_53178_2 rfl (lv_at hl 1 rfl) ?_
  refine va_alen (D := D) (v := Int32.ofNat n) hx hb hK hP 0 0 rfl rfl rfl dJ7_fill_53178_3 ?_
  refine lv_istore_n (lv' := [(3, .int (Int32.ofNat n)), (2, .int 0), (0, .ref h0), (1, .int v)]) hx hb dJ7_fill_53178_4 rfl hl (by decide) rfl (fun ls hl => ?_)
  have L : ∀ (k : Nat) (x : Int32) (g : Nat → Int32) (H : Heap) (locs : List Loc) (ls : Array Slot), 0 ≤ x.toInt → x.toInt ≤ n → (∀ j : Nat, g j = if (j : Int) < x.toInt then v else f j) → (1001 - x.toInt).toNat < k → va_P D vwCl [(h0, .inl (cI, n, .inl g))] H → va_D A [(h0, .inl (cI, n, .inl g))] → va_S A s.heap H locs → lv_has ls 4 [(3, .int (Int32.ofNat n)), (2, .int x), (0, .ref h0), (1, .int v)] → W p l e (headSpec (.code yJ7_fill_53178 cJ7_fill_53178 4 none :: kw_ws) (kc_rm 1 0 0)).room s m [Value.ref h0, Value.int v].toArray below meth c H locs 0 0 (MQ below (va_Qv (fun f' : Nat → Int32 => f' = fun j => if j < n then v else f j) (fun f' t => va_P D vwCl [(h0, .inl (cI, n, .inl f'))] t.heap ∧ va_D A [(h0, .inl (cI, n, .inl f'))]) A) [Value.ref h0, Value.int v].toArray s 0 0 A) (F0 m 5 ls []) := by
    intro k
    induction k with
    | zero => intro x g H locs ls _ _ _ hm; exact absurd hm (Nat.not_lt_zero _)
    | succ k ih =>
      intro x g H locs ls h1 hxn hg hm hP hD hS hl
      have hrx := kw_rng x
      refine lv_iload_n hx hb dJ7_fill_53178_5 rfl (lv_at hl 1 rfl) ?_
      refine lv_iload_n hx hb dJ7_fill_53178_6 rfl (lv_at hl 0 rfl) ?_
      refine lv_icmp_ge (tgt := 20) hx hb dJ7_fill_53178_7 (by decide) (fun c9 => ?_) (fun c9 => ?_)
      · have c8 := kw_leI c9
        have hge : g = fun j => if j < n then v else f j := by
          funext j
          rw [hg j]
          by_cases hj : j < n
          · rw [if_pos hj, if_pos (by omega)]
          · rw [if_neg hj, if_neg (by omega)]
        exact W.vret hx hb hr (fun t ht hW => ⟨⟨g, rfl, hge, by rw [ht]; exact hP, hD⟩, hS.F ht⟩) hS.2.2 dJ7_fill_53178_20
      · have c8 := kw_nleI c9
        refine lv_aload_n hx hb dJ7_fill_53178_10 rfl (lv_at hl 2 rfl) ?_
        refine lv_iload_n hx hb dJ7_fill_53178_11 rfl (lv_at hl 1 rfl) ?_
        refine lv_iload_n hx hb dJ7_fill_53178_12 rfl (lv_at hl 3 rfl) ?_
        refine va_iast (D := D) (n := n) (f := g) (i := x) (x := v) hx hb hK hP hD hS 0 0 rfl rfl (kw_in h1 (by omega)) dJ7_fill_53178_13 (fun H locs hP hD hS => ?_)
        have hP : va_P D vwCl [(h0, .inl (cI, n, .inl (upd g x.toNatClampNeg v)))] H := hP
        have hD : va_D A [(h0, .inl (cI, n, .inl (upd g x.toNatClampNeg v)))] := hD
        obtain ⟨z, ez⟩ : ∃ z : Int32, x + Int32.ofInt 1 = z := ⟨_, rfl⟩
        have tz : z.toInt = x.toInt + 1 := by
          rw [← ez, kw_addI, show (Int32.ofInt 1).toInt = 1 from rfl]; omega
        refine lv_iinc (v := z) (lv' := [(2, .int z), (3, .int (Int32.ofNat n)), (0, .ref h0), (1, .int v)]) hx hb dJ7_fill_53178_14 hl (k := 1) rfl ez (by decide) rfl (fun ls hl => ?_)
        refine lv_goto (tgt := 5) hx hb dJ7_fill_53178_17 (by decide) ?_
        refine ih z (upd g x.toNatClampNeg v) H locs ls (by omega) (by omega) (fun j => ?_) (by omega) hP hD hS (lv_sub hl [1, 0, 2, 3] rfl)
        have cx := kw_clampI h1
        by_cases hj : j = x.toNatClampNeg
        · rw [if_pos (by omega)]
          simp [upd, hj]
        · have hu : upd g x.toNatClampNeg v j = g j := by simp [upd, hj]
          rw [hu, hg j]
          by_cases h3 : (j : Int) < x.toInt
          · rw [if_pos h3, if_pos (by omega)]
          · rw [if_neg h3, if_neg (by omega)]
  exact L _ 0 f s.heap [] ls (by decide) (by show (0 : Int) ≤ _; omega) (fun j => by rw [if_neg (by show ¬ (j : Int) < 0; omega)]) (Nat.lt_succ_self _) hP hD hS hl
theorem kc_same2 {D : va_G} {cl : List vw_C} {tys : List (ClassId × FieldType)} {s : State} (h : va_K D cl tys s) (i j : Nat) {c c' : ClassId} (hi : tys[i]? = some (c, .array .int)) (hj : tys[j]? = some (c', .array .int)) : c = c' := by
  have a : s.vm.findClass ("[" ++ (FieldType.array .int).toString) = some c := (h.2 i _ hi).2
  have b : s.vm.findClass ("[" ++ (FieldType.array .int).toString) = some c' := (h.2 j _ hj).2
  exact Option.some.inj (a.symm.trans b)
theorem kc_same3 {D : va_G} {cl : List vw_C} {tys : List (ClassId × FieldType)} {s : State} (h : va_K D cl tys s) (i j : Nat) {C : String} {c c' : ClassId} (hi : tys[i]? = some (c, .object C)) (hj : tys[j]? = some (c', .object C)) : c = c' := by
  obtain ⟨_, _, -, -, -, a⟩ := (h.2 i _ hi).2
  obtain ⟨_, _, -, -, -, b⟩ := (h.2 j _ hj).2
  exact Option.some.inj (a.symm.trans b)
/-! new int[n][m]: the outer row's law, out of the printed one, over any world -/
theorem kc_outer (c : ClassId) (N h0 : Nat) : ∀ i : Nat, Jvm.Free.Multi.outerC c N h0 i = arrV c N (fun j => va_rf (if j < i then some (h0 + 1 + j) else none))
  | 0 => by
    show ({ cls := c, slots := Array.replicate N .null, vm := .none } : Cell) = _
    rw [arrV_new]
    refine congrArg (arrV c N) (funext fun j => ?_)
    simp [va_rf]
  | i + 1 => by
    show (Jvm.Free.Multi.outerC c N h0 i).setSlot i (.ref (h0 + 1 + i)) = _
    rw [kc_outer c N h0 i, arrV_store]
    refine congrArg (arrV c N) (funext fun j => ?_)
    by_cases e : j = i
    · subst e
      simp [updV, va_rf]
    · by_cases h : j < i
      · simp [updV, e, h, Nat.lt_succ_of_lt h]
      · simp [updV, e, h, show ¬ j < i + 1 by omega]
section KCM
variable {p : Program} {l : Launch} {e : Env} {R : Room} {s : State} {m : MethodId} {args : Array Value} {below : List Frame} {meth : Method} {c : Code} {H : Heap} {locs : List Loc} {cells slots : Nat} {Q : State → Prop}
variable {cc : ByteArray} {pc : Nat} {ls : Array Slot} {rest : List Value} {D : va_G} {cl : List vw_C} {A : Nat → Prop} {tys : List (ClassId × FieldType)} {ws : va_W} {H0 : Heap}
theorem kc_mna (hexec : p.tables.exec = Jvm.exec) (hb : c.code = cc) {own : String} {index : Nat} {cy : ClassId} (hown : s.vm.findClass own = some m.cls) (hclink : (Cond.classLink own index "[[I").before args s = true) (hover : kc_AOA s) (harr : (Cond.arrayClass .int).before args s = true) (hcy : s.vm.findClass (FieldType.array .int).toString = some cy)
    (hK : va_K D cl tys s) (hP : va_P D cl ws H) (hD : va_D A ws) (hS : va_S A H0 H locs) (hA : ∀ q, H0.size ≤ q → A q) {n k : Int32} (N' K' : Nat) (hn : ¬ n < 0) (hk : ¬ k < 0) (hN : n.toNatClampNeg = N') (hM : k.toNatClampNeg = K')
    (hb1 : N' * 4 ≤ 536870912) (hb2 : K' * componentBytes .int ≤ 536870912) (hb3 : K' ≤ 536870912) (hcells : cells + (1 + N') ≤ R.cells) (hslots : slots + (N' + N' * K') ≤ R.slots) (hdg : decode cc pc = .ok (.multianewarray index 2, 4))
    (kk : ∀ (q : Nat) (r : Nat → Nat) (cA : ClassId) (H1 : Heap), va_K D cl (tys ++ [(cA, .array .int)]) s →
      va_P D cl ((ws ++ [(q, .inl (cA, N', .inr (.inr (.inr (.inr (fun i => if i < N' then some (r i) else none))))))]) ++ ((List.range N').map r).map (fun a => (a, .inl (cy, K', .inl (fun _ => 0))))) H1 → va_D A ((ws ++ [(q, .inl (cA, N', .inr (.inr (.inr (.inr (fun i => if i < N' then some (r i) else none))))))]) ++ ((List.range N').map r).map (fun a => (a, .inl (cy, K', .inl (fun _ => 0))))) → va_S A H0 H1 locs →
      W p l e R s m args below meth c H1 locs (cells + 1 + N') (slots + N' + N' * K') Q (F0 m (pc + 4) ls (.ref q :: rest))) : W p l e R s m args below meth c H locs cells slots Q (F0 m pc ls (.int k :: .int n :: rest)) := by
  subst hN
  subst hM
  intro T hT Xs
  obtain ⟨vm₁, cA, comp, -, fA, fC, hO, -, X', step⟩ := Xs.multianewarray2F (ty := .int) hexec hown hclink hover harr (g := F0 m pc ls (.int k :: .int n :: rest)) rfl (by rw [hb]; exact hdg) rfl hn hk hb1 hb2 hb3 rfl rfl hcells hslots
  have ec : some cy = some comp := hcy.symm.trans fC
  cases ec
  generalize hF : Jvm.Free.Multi.fill (T.setVm vm₁) cA cy n.toNatClampNeg k.toNatClampNeg (defaultValue .int) n.toNatClampNeg = F at X' step
  have hTh : (T.setVm vm₁).heap = H := hT
  obtain ⟨f1, f2, -, -⟩ := Jvm.Free.Multi.fill_facts (T.setVm vm₁) cA cy n.toNatClampNeg k.toNatClampNeg (defaultValue .int) n.toNatClampNeg
  rw [hF, hTh] at f1 f2
  have hold : ∀ x : Nat, x < H.size → F.heap[x]? = H[x]? := fun x hx => by
    have := Jvm.Free.Multi.fill_old (T.setVm vm₁) cA cy n.toNatClampNeg k.toNatClampNeg (defaultValue .int) (a := x) (by rw [hTh]; exact hx) n.toNatClampNeg
    rw [hF, hTh] at this
    exact this
  have hz : ∀ c : ClassId, Jvm.Free.Multi.innerC c k.toNatClampNeg (defaultValue .int) = vp_cell c (k.toNatClampNeg, .inl (fun _ => 0)) := fun c => by
    rw [vp_cell_i]
    show ({ cls := c, slots := Array.replicate k.toNatClampNeg (.int 0), vm := .none } : Cell) = _
    rw [arrV_new]
  have hrow : ∀ j : Nat, j < n.toNatClampNeg → F.heap[H.size + 1 + j]? = some (vp_cell cy (k.toNatClampNeg, .inl (fun _ => 0))) := fun j hj => by
    have := Jvm.Free.Multi.fill_inner (T.setVm vm₁) cA cy n.toNatClampNeg k.toNatClampNeg (defaultValue .int) n.toNatClampNeg j hj
    rw [hF, hTh, hz] at this
    exact this
  have hout : Jvm.Free.Multi.outerC cA n.toNatClampNeg H.size n.toNatClampNeg = vp_cell cA (n.toNatClampNeg, .inr (.inr (.inr (.inr (fun i => if i < n.toNatClampNeg then some (H.size + 1 + i) else none))))) := by
    rw [vp_cell_q]
    exact kc_outer cA n.toNatClampNeg H.size n.toNatClampNeg
  rw [hout] at f2
  have hP0 : va_P D cl ws F.heap := hP.kept (fun k9 x hx => hold x.1 ((hP k9 x hx).lt))
  have hP1 : va_P D cl (ws ++ [(H.size, .inl (cA, n.toNatClampNeg, .inr (.inr (.inr (.inr (fun i => if i < n.toNatClampNeg then some (H.size + 1 + i) else none))))))]) F.heap := hP0.app (fun k9 x hx => by
    have h0 : k9 < 1 := (List.getElem?_eq_some_iff.mp hx).1
    rw [show k9 = 0 by omega] at hx
    cases hx
    exact f2)
  have hP2 : va_P D cl ((ws ++ [(H.size, .inl (cA, n.toNatClampNeg, .inr (.inr (.inr (.inr (fun i => if i < n.toNatClampNeg then some (H.size + 1 + i) else none))))))]) ++ ((List.range n.toNatClampNeg).map (fun i => H.size + 1 + i)).map (fun a => (a, .inl (cy, k.toNatClampNeg, .inl (fun _ => 0))))) F.heap := hP1.app (fun k9 x hx => by
    obtain ⟨a, ha, rfl⟩ := List.mem_map.mp (List.mem_of_getElem? hx)
    obtain ⟨i, hi, rfl⟩ := List.mem_map.mp ha
    exact hrow i (List.mem_range.mp hi))
  have hD2 : va_D A ((ws ++ [(H.size, .inl (cA, n.toNatClampNeg, .inr (.inr (.inr (.inr (fun i => if i < n.toNatClampNeg then some (H.size + 1 + i) else none))))))]) ++ ((List.range n.toNatClampNeg).map (fun i => H.size + 1 + i)).map (fun a => (a, .inl (cy, k.toNatClampNeg, .inl (fun _ => 0))))) := by
    have hD1 := hD.push (e := .inl (cA, n.toNatClampNeg, .inr (.inr (.inr (.inr (fun i => if i < n.toNatClampNeg then some (H.size + 1 + i) else none)))))) hP rfl (hA _ hS.1)
    generalize hW1 : ws ++ [(H.size, .inl (cA, n.toNatClampNeg, .inr (.inr (.inr (.inr (fun i => if i < n.toNatClampNeg then some (H.size + 1 + i) else none))))))] = W1 at hD1 hP1 ⊢
    have hle : ∀ (k9 : Nat) (x : Nat × va_E), W1[k9]? = some x → x.1 ≤ H.size := fun k9 x hx => by
      rw [← hW1] at hx
      by_cases hl : k9 < ws.length
      · rw [List.getElem?_append_left hl] at hx
        exact Nat.le_of_lt ((hP k9 x hx).lt)
      · rw [List.getElem?_append_right (by omega)] at hx
        have h0 : k9 - ws.length < 1 := (List.getElem?_eq_some_iff.mp hx).1
        rw [show k9 - ws.length = 0 by omega] at hx
        cases hx
        exact Nat.le_refl _
    have hr : ∀ (k9 : Nat) (x : Nat × va_E), (((List.range n.toNatClampNeg).map (fun i => H.size + 1 + i)).map (fun a => ((a, .inl (cy, k.toNatClampNeg, .inl (fun _ => 0))) : Nat × va_E)))[k9]? = some x → x.1 = H.size + 1 + k9 := fun k9 x hx => by
      rw [List.getElem?_map, List.getElem?_map] at hx
      by_cases h9 : k9 < n.toNatClampNeg
      · rw [List.getElem?_range h9] at hx
        cases hx
        rfl
      · have hn0 : (List.range n.toNatClampNeg)[k9]? = none := List.getElem?_eq_none (by rw [List.length_range]; omega)
        rw [hn0] at hx
        cases hx
    refine ⟨fun i j x y hi hj hxy => ?_, fun k9 x hx => ?_⟩
    · by_cases h1 : i < W1.length <;> by_cases h2 : j < W1.length
      · rw [List.getElem?_append_left h1] at hi
        rw [List.getElem?_append_left h2] at hj
        exact hD1.1 i j x y hi hj hxy
      · rw [List.getElem?_append_left h1] at hi
        rw [List.getElem?_append_right (by omega)] at hj
        have := hle _ _ hi
        have := hr _ _ hj
        omega
      · rw [List.getElem?_append_right (by omega)] at hi
        rw [List.getElem?_append_left h2] at hj
        have := hle _ _ hj
        have := hr _ _ hi
        omega
      · rw [List.getElem?_append_right (by omega)] at hi hj
        have := hr _ _ hi
        have := hr _ _ hj
        omega
    · by_cases h1 : k9 < W1.length
      · rw [List.getElem?_append_left h1] at hx
        exact hD1.2 k9 x hx
      · rw [List.getElem?_append_right (by omega)] at hx
        have := hr _ _ hx
        exact hA _ (by have := hS.1; omega)
  have hAr : ArrOfT s cA (.array .int) := fun N9 z9 => by
    obtain ⟨-, k9, hk9, cm9, hkk9⟩ := (hO 0 0 0).1
    exact ⟨(fun q hq => by cases hq), k9, hk9, cm9, hkk9⟩
  have hK2 : va_K D cl (tys ++ [(cA, .array .int)]) s := ⟨hK.1, fun k9 x hx => by
    by_cases hl : k9 < tys.length
    · rw [List.getElem?_append_left hl] at hx
      exact hK.2 k9 x hx
    · rw [List.getElem?_append_right (by omega)] at hx
      have h0 : k9 - tys.length < 1 := (List.getElem?_eq_some_iff.mp hx).1
      rw [show k9 - tys.length = 0 by omega] at hx
      cases hx
      exact ⟨hAr, fA⟩⟩
  obtain ⟨t, a1, b1⟩ := kk H.size (fun i => H.size + 1 + i) cA F.heap hK2 hP2 hD2 ⟨by rw [f1]; have := hS.1; omega, fun x h1 h2 => (hold x (Nat.lt_of_lt_of_le h1 hS.1)).trans (hS.2.1 x h1 h2), hS.2.2⟩ F rfl X'
  refine ⟨t, step t ?_, b1⟩
  have e : T.heap.size = H.size := by rw [hT]
  rw [e]
  exact a1
end KCM
