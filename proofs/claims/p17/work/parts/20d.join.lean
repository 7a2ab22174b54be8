/-! ===== worlds by their skeleton: read one by one; side by side ===== -/
def kc_cl (cI cII cC : ClassId) : Nat → ClassId := fun t => if t = 0 then cI else if t = 1 then cII else cC
def kc_fl (ad : Nat → Nat) (σ : kw_S) (a : Nat) : Nat → List Value → List Value
  | _, [] => []
  | j, t :: ts => kw_fv ad σ a j t :: kc_fl ad σ a (j + 1) ts
theorem kc_fleq (ad : Nat → Nat) (σ : kw_S) (a : Nat) : ∀ (fs : List Value) (n : Nat), fs.mapIdx (fun j => kw_fv ad σ a (j + n)) = kc_fl ad σ a n fs
  | [], _ => rfl
  | t :: ts, n => by
    rw [List.mapIdx_cons]
    show _ = kw_fv ad σ a n t :: kc_fl ad σ a (n + 1) ts
    rw [← kc_fleq ad σ a ts (n + 1), Nat.zero_add]
    congr 2
    funext j
    rw [Nat.add_assoc, Nat.add_comm 1 n]
def kc_cell (G : kw_G) (σ : kw_S) (a : Nat) (k : kw_K1) : va_E := match k with
  | .inl (.inl n) => .inl (G.2.2 0, n, .inl (σ.1 a))
  | .inl (.inr (t, rs)) => .inl (G.2.2 t, rs.length, .inr (.inr (.inr (.inr (fun j => (rs[j]?).map G.1)))))
  | .inr (ci, fs) => .inr (ci, kc_fl G.1 σ a 0 fs)
theorem kc_celleq (G : kw_G) (σ : kw_S) (a : Nat) (k : kw_K1) : kw_cell G σ a k = kc_cell G σ a k := by
  rcases k with (n | ⟨t, rs⟩) | ⟨ci, fs⟩
  · rfl
  · rfl
  · show Sum.inr (ci, kw_fill G.1 σ a fs) = Sum.inr (ci, kc_fl G.1 σ a 0 fs)
    rw [← kc_fleq]
    rfl
def kc_W (G : kw_G) (σ : kw_S) : Nat → List kw_K1 → va_W
  | _, [] => []
  | a, k :: K => (G.1 a, kc_cell G σ a k) :: kc_W G σ (a + 1) K
theorem kc_Weq' (G : kw_G) (σ : kw_S) : ∀ (K : List kw_K1) (n : Nat), K.mapIdx (fun a k => (G.1 (a + n), kw_cell G σ (a + n) k)) = kc_W G σ n K
  | [], _ => rfl
  | k :: K, n => by
    rw [List.mapIdx_cons]
    show _ = (G.1 n, kc_cell G σ n k) :: kc_W G σ (n + 1) K
    rw [← kc_Weq' G σ K (n + 1), Nat.zero_add, kc_celleq]
    congr 2
    funext a k
    rw [Nat.add_assoc, Nat.add_comm 1 n]
theorem kc_Weq (G : kw_G) (K : List kw_K1) (σ : kw_S) : kw_W G K σ = kc_W G σ 0 K := by
  rw [← kc_Weq']
  rfl
def kc_lowV (n : Nat) (v : Value) : Bool := match v with
  | .ref b => decide (b < n)
  | _ => true
def kc_low (n : Nat) (k : kw_K1) : Bool := match k with
  | .inl (.inl _) => true
  | .inl (.inr (_, rs)) => rs.all (fun b => decide (b < n))
  | .inr (_, fs) => fs.all (kc_lowV n)
theorem kc_cellcong {n : Nat} {G G' : kw_G} {σ σ' : kw_S} {a : Nat} {k : kw_K1} (hk : kc_low n k = true) (hG : ∀ b, b < n → G.1 b = G'.1 b) (hG2 : G.2 = G'.2) (h1 : σ.1 a = σ'.1 a) (h2 : σ.2 a = σ'.2 a) : kw_cell G σ a k = kw_cell G' σ' a k := by
  rcases k with (m | ⟨t, rs⟩) | ⟨ci, fs⟩
  · show Sum.inl (G.2.2 0, m, _) = Sum.inl (G'.2.2 0, m, _)
    rw [hG2, h1]
  · have e : (fun j : Nat => (rs[j]?).map G.1) = fun j : Nat => (rs[j]?).map G'.1 := by
      funext j
      cases h : rs[j]? with
      | none => rfl
      | some b => exact congrArg some (hG b (of_decide_eq_true (List.all_eq_true.mp hk b (List.mem_of_getElem? h))))
    show Sum.inl (G.2.2 t, rs.length, _) = Sum.inl (G'.2.2 t, rs.length, _)
    rw [hG2, e]
  · have e : kw_fill G.1 σ a fs = kw_fill G'.1 σ' a fs := by
      apply List.ext_getElem?
      intro j
      rw [kw_fill_get, kw_fill_get]
      cases h : fs[j]? with
      | none => rfl
      | some v =>
        have hb := List.all_eq_true.mp hk v (List.mem_of_getElem? h)
        cases v with
        | ref b => exact congrArg (fun x => some (Value.ref x)) (hG b (of_decide_eq_true hb))
        | int _ => exact congrArg (fun x => some (Value.int (x j))) h1
        | long _ => exact congrArg (fun x => some (Value.long (x j))) h2
        | _ => rfl
    show Sum.inr (ci, _) = Sum.inr (ci, _)
    rw [e]
theorem kc_Wcong {n : Nat} {G G' : kw_G} {K : List kw_K1} {σ σ' : kw_S} (hK : ∀ k ∈ K, kc_low n k = true) (hl : K.length ≤ n) (hG : ∀ b, b < n → G.1 b = G'.1 b) (hG2 : G.2 = G'.2) (h1 : ∀ a, a < n → σ.1 a = σ'.1 a) (h2 : ∀ a, a < n → σ.2 a = σ'.2 a) : kw_W G K σ = kw_W G' K σ' := by
  apply List.ext_getElem?
  intro a
  rw [kw_W_get, kw_W_get]
  cases h : K[a]? with
  | none => rfl
  | some k =>
    have ha : a < n := Nat.lt_of_lt_of_le (List.getElem?_eq_some_iff.mp h).1 hl
    show some (G.1 a, kw_cell G σ a k) = some (G'.1 a, kw_cell G' σ' a k)
    rw [hG a ha, kc_cellcong (hK k (List.mem_of_getElem? h)) hG hG2 (h1 a ha) (h2 a ha)]
theorem kc_WJ (G : kw_G) (σ : kw_S) : kw_W G KJ σ = kw_W G KX σ ++ kw_W (kw_shG 61 G) KM (kw_sh 61 σ) := by
  apply List.ext_getElem?
  intro a
  have hl : (kw_W G KX σ).length = 61 := by simp [kw_W, kw_KXl]
  by_cases ha : a < 61
  · rw [List.getElem?_append_left (by rw [hl]; exact ha), kw_W_get, kw_KJX ha, ← kw_W_get]
  · rw [List.getElem?_append_right (by rw [hl]; omega), hl]
    obtain ⟨b, rfl⟩ : ∃ b, a = 61 + b := ⟨a - 61, by omega⟩
    rw [show 61 + b - 61 = b by omega]
    cases h : (kw_W (kw_shG 61 G) KM (kw_sh 61 σ))[b]? with
    | some q => exact kw_WM h
    | none =>
      rw [kw_W_get] at h ⊢
      rw [kw_KJM]
      cases h1 : KM[b]? with
      | none => rfl
      | some c => rw [h1] at h; cases h
theorem kc_KXlow : ∀ k ∈ KX, kc_low 61 k = true := by decide +kernel
theorem kc_KMlow : ∀ k ∈ KM, kc_low 23 k = true := by decide +kernel
theorem kc_last {D : va_G} {cl : List vw_C} {w : va_W} {c : Nat × va_E} {H : Heap} (h : va_P D cl (w ++ [c]) H) : va_P D cl [c] H := by
  refine h.by (fun k => w.length + k) (fun k q hk => ?_)
  rw [List.getElem?_append_right (by omega), show w.length + k - w.length = k by omega]
  exact hk
theorem kc_lastD {A : Nat → Prop} {w : va_W} {c : Nat × va_E} (h : va_D A (w ++ [c])) : va_D A [c] := by
  have e : ∀ k : Nat, (w ++ [c])[w.length + k]? = [c][k]? := fun k => by rw [List.getElem?_append_right (by omega), show w.length + k - w.length = k by omega]
  refine ⟨fun i j p q hi hj hpq => ?_, fun k q hk => h.2 (w.length + k) q (by rw [e]; exact hk)⟩
  have := h.1 (w.length + i) (w.length + j) p q (by rw [e]; exact hi) (by rw [e]; exact hj) hpq
  omega
theorem kc_rangeR (w : va_W) (c : Nat × va_E) : (List.range w.length).map (fun i => (w ++ [c])[i]?) = w.map some := by
  apply List.ext_getElem?
  intro k
  rw [List.getElem?_map, List.getElem?_map]
  by_cases hk : k < w.length
  · rw [List.getElem?_range hk]
    show some ((w ++ [c])[k]?) = _
    rw [List.getElem?_append_left hk, List.getElem?_eq_getElem hk]
    rfl
  · rw [List.getElem?_eq_none (by simp; omega), List.getElem?_eq_none (by omega)]
    rfl
theorem kc_joinL {A0 : Nat → Prop} {D : va_G} {cl : List vw_C} {w w1 : va_W} {c : Nat × va_E} {H H1 : Heap} (hl : w.length = 61) (hP : va_P D cl (w ++ [c]) H) (hD : va_D A0 (w ++ [c])) (hk : ∀ q : Nat, q < H.size → ¬ va_A [c] H.size q → H1[q]? = H[q]?) (hF : ∀ q, va_A [c] H.size q → A0 q) (hP1 : va_P D cl w1 H1) (hD1 : va_D (va_A [c] H.size) w1) : va_P D cl (w ++ w1) H1 ∧ va_D A0 (w ++ w1) :=
  va_join hP hD [61] (List.range 61) (by rw [← hl]; simp) (by rw [← hl]; exact kc_rangeR w c) (by decide +kernel) (by decide +kernel) hk hF hP1 hD1
theorem kc_freeL {A0 : Nat → Prop} {w : va_W} {c : Nat × va_E} {H0 H : Heap} {locs : List Loc} (hD : va_D A0 (w ++ [c])) (hS : va_S A0 H0 H locs) (hA : ∀ q, H0.size ≤ q → A0 q) : ∀ q, va_A [c] H.size q → A0 q :=
  va_free (wc := [c]) hD hS hA [w.length] (by simp)
