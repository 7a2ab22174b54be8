theorem kp_has1 (σ : kw_S) (k : Int32) : f_X3_has_1 σ k = if 0 ≤ k.toInt ∧ k.toInt < 6 then 1 else 0 := by
  have q : (6 : Int32).toInt = 6 := rfl
  rw [f_X3_has_1_u]
  by_cases h : k.toInt < 0
  · rw [if_pos h, if_neg (by omega)]
  · rw [if_neg h]
    by_cases h2 : k.toInt < 6
    · rw [if_pos (by omega), if_pos (by omega)]
    · rw [if_neg (by omega), if_neg (by omega)]
theorem kp_size1 (σ : kw_S) (k : Int32) : f_X3_sizeOf_1 σ k = if 0 ≤ k.toInt ∧ k.toInt < 6 then σ.1 13 k.toNatClampNeg else -1 := by
  rw [f_X3_sizeOf_1_u]
  simp only [kf_lx, kp_has1]
  by_cases h : 0 ≤ k.toInt ∧ k.toInt < 6
  · simp only [if_pos h, kp_q1]; rfl
  · simp only [if_neg h, kp_q0]; rfl
theorem kp_miss1 (σ : kw_S) (k : Int32) : f_X3_isMissing_1 σ k = if 0 ≤ k.toInt ∧ k.toInt < 6 ∧ 0 ≤ (σ.1 13 k.toNatClampNeg).toInt then 0 else 1 := by
  rw [f_X3_isMissing_1_u]
  simp only [kf_lx, kp_size1]
  by_cases h : 0 ≤ k.toInt ∧ k.toInt < 6
  · simp only [if_pos h]
    by_cases h2 : (σ.1 13 k.toNatClampNeg).toInt < 0
    · rw [if_pos h2, if_neg (by omega)]
    · rw [if_neg h2, if_pos (by omega)]
  · simp only [if_neg h]
    rw [if_pos (by decide), if_neg (by omega)]
theorem kp_places1 (σ : kw_S) (hb : ∀ j : Nat, -1 ≤ (σ.1 13 j).toInt ∧ (σ.1 13 j).toInt ≤ 40) (k f n : Int32) (hn : 0 ≤ n.toInt) (hn2 : n.toInt ≤ 1000000) : f_X3_hasPlaces_1 σ k f n = if 0 ≤ k.toInt ∧ k.toInt < 6 ∧ 0 ≤ f.toInt ∧ f.toInt + n.toInt ≤ (σ.1 13 k.toNatClampNeg).toInt then 1 else 0 := by
  rw [f_X3_hasPlaces_1_u]
  simp only [kf_lx, kp_has1]
  have hb := hb k.toNatClampNeg
  have e := kw_subI (σ.1 13 k.toNatClampNeg) n
  by_cases h : 0 ≤ k.toInt ∧ k.toInt < 6
  · rw [if_pos h, if_neg (by decide)]
    by_cases hf : f.toInt < 0
    · rw [if_pos hf, if_neg (by omega)]
    · rw [if_neg hf, if_neg (by omega)]
      by_cases h3 : (σ.1 13 k.toNatClampNeg - n).toInt < f.toInt
      · rw [if_pos h3, if_neg (by omega)]
      · rw [if_neg h3, if_pos (by omega)]
  · rw [if_neg h, if_pos (by decide), if_neg (by omega)]
theorem kp_row1 (k : Int32) (h0 : 0 ≤ k.toInt) (h1 : k.toInt < 6) {β : Type} (A : Nat → β) (z : β) : (if k.toInt = 0 then A 29 else if k.toInt = 1 then A 30 else if k.toInt = 2 then A 31 else if k.toInt = 3 then A 32 else if k.toInt = 4 then A 33 else if k.toInt = 5 then A 34 else z) = A (29 + k.toNatClampNeg) := by
  have c := kw_clampI h0
  rcases (show k.toInt = 0 ∨ k.toInt = 1 ∨ k.toInt = 2 ∨ k.toInt = 3 ∨ k.toInt = 4 ∨ k.toInt = 5 by omega) with h | h | h | h | h | h
  · rw [show k.toNatClampNeg = 0 by omega]
    simp [h]
  · rw [show k.toNatClampNeg = 1 by omega]
    simp [h]
  · rw [show k.toNatClampNeg = 2 by omega]
    simp [h]
  · rw [show k.toNatClampNeg = 3 by omega]
    simp [h]
  · rw [show k.toNatClampNeg = 4 by omega]
    simp [h]
  · rw [show k.toNatClampNeg = 5 by omega]
    simp [h]
theorem kp_value1 (σ : kw_S) (hb : ∀ j : Nat, -1 ≤ (σ.1 13 j).toInt ∧ (σ.1 13 j).toInt ≤ 40) (k i : Int32) : f_X3_valueAt_1 σ k i = if 0 ≤ k.toInt ∧ k.toInt < 6 ∧ 0 ≤ i.toInt ∧ i.toInt < (σ.1 13 k.toNatClampNeg).toInt then σ.1 (29 + k.toNatClampNeg) i.toNatClampNeg else 1000 := by
  rw [f_X3_valueAt_1_u]
  simp only [kf_lx]
  rw [kp_places1 σ hb k i 1 (by decide) (by decide), kp_q1]
  by_cases h : 0 ≤ k.toInt ∧ k.toInt < 6 ∧ 0 ≤ i.toInt ∧ i.toInt < (σ.1 13 k.toNatClampNeg).toInt
  · rw [if_pos (show 0 ≤ k.toInt ∧ k.toInt < 6 ∧ 0 ≤ i.toInt ∧ i.toInt + 1 ≤ (σ.1 13 k.toNatClampNeg).toInt by omega), if_neg (by decide), if_pos h]
    exact kp_row1 k h.1 h.2.1 (fun a => σ.1 a i.toNatClampNeg) 0
  · rw [if_neg (show ¬ (0 ≤ k.toInt ∧ k.toInt < 6 ∧ 0 ≤ i.toInt ∧ i.toInt + 1 ≤ (σ.1 13 k.toNatClampNeg).toInt) by omega), if_pos (by decide), if_neg h]
theorem kp_change1 (σ : kw_S) (hb : ∀ j : Nat, -1 ≤ (σ.1 13 j).toInt ∧ (σ.1 13 j).toInt ≤ 40) (k i v : Int32) : f_X3_change_1 σ k i v = if 0 ≤ k.toInt ∧ k.toInt < 6 ∧ 0 ≤ i.toInt ∧ i.toInt < (σ.1 13 k.toNatClampNeg).toInt then kw_ui σ (29 + k.toNatClampNeg) i.toNatClampNeg v else σ := by
  rw [f_X3_change_1_u]
  simp only [kf_lx]
  rw [kp_places1 σ hb k i 1 (by decide) (by decide), kp_q1]
  by_cases h : 0 ≤ k.toInt ∧ k.toInt < 6 ∧ 0 ≤ i.toInt ∧ i.toInt < (σ.1 13 k.toNatClampNeg).toInt
  · rw [if_pos (show 0 ≤ k.toInt ∧ k.toInt < 6 ∧ 0 ≤ i.toInt ∧ i.toInt + 1 ≤ (σ.1 13 k.toNatClampNeg).toInt by omega), if_neg (by decide), if_pos h]
    exact kp_row1 k h.1 h.2.1 (fun a => kw_ui σ a i.toNatClampNeg v) σ
  · rw [if_neg (show ¬ (0 ≤ k.toInt ∧ k.toInt < 6 ∧ 0 ≤ i.toInt ∧ i.toInt + 1 ≤ (σ.1 13 k.toNatClampNeg).toInt) by omega), if_pos (by decide), if_neg h]
theorem kp_make1 (σ : kw_S) (hr : (σ.1 1 0).toInt = 40) (k n v : Int32) (h0 : 0 ≤ k.toInt) (h1 : k.toInt < 6) (h2 : 0 ≤ n.toInt) (h3 : n.toInt ≤ 40) : f_X3_make_1 σ k n v = kw_ua (kw_ui σ 13 k.toNatClampNeg n) (29 + k.toNatClampNeg) (fun j => if j < 40 then v else σ.1 (29 + k.toNatClampNeg) j) := by
  rw [f_X3_make_1_u]
  simp only [kf_lx, kp_has1]
  rw [if_pos (show 0 ≤ k.toInt ∧ k.toInt < 6 from ⟨h0, h1⟩), if_neg (by decide), if_neg (by omega), if_neg (by omega)]
  simp only [kp_fill29, kp_fill30, kp_fill31, kp_fill32, kp_fill33, kp_fill34]
  have c := kw_clampI h0
  have g : ∀ a : Nat, a ≠ 13 → (kw_ui σ 13 k.toNatClampNeg n).1 a = σ.1 a := fun a ha => by funext j; rw [kp_ui, if_neg (by omega)]
  simp only [g 29 (by decide), g 30 (by decide), g 31 (by decide), g 32 (by decide), g 33 (by decide), g 34 (by decide)]
  exact kp_row1 k h0 h1 (fun a => kw_ua (kw_ui σ 13 k.toNatClampNeg n) a (fun j => if j < 40 then v else σ.1 a j)) _
theorem kp_find1 (σ : kw_S) (hb : ∀ j : Nat, -1 ≤ (σ.1 13 j).toInt ∧ (σ.1 13 j).toInt ≤ 40) (k i : Int32) (h0 : 0 ≤ k.toInt) (h1 : k.toInt < 6) : f_X3_findingAt_1 σ k i = if (σ.1 13 k.toNatClampNeg).toInt < 0 then 1 else if 0 ≤ i.toInt ∧ i.toInt < (σ.1 13 k.toNatClampNeg).toInt then 0 else 2 := by
  rw [f_X3_findingAt_1_u]
  simp only [kf_lx, kp_miss1]
  rw [kp_places1 σ hb k i 1 (by decide) (by decide), kp_q1]
  by_cases h : (σ.1 13 k.toNatClampNeg).toInt < 0
  · rw [if_neg (show ¬ (0 ≤ k.toInt ∧ k.toInt < 6 ∧ 0 ≤ (σ.1 13 k.toNatClampNeg).toInt) by omega), if_neg (by decide), if_pos h]
  · rw [if_pos (show 0 ≤ k.toInt ∧ k.toInt < 6 ∧ 0 ≤ (σ.1 13 k.toNatClampNeg).toInt by omega), if_pos (by decide), if_neg h]
    by_cases h2 : 0 ≤ i.toInt ∧ i.toInt < (σ.1 13 k.toNatClampNeg).toInt
    · rw [if_pos (show 0 ≤ k.toInt ∧ k.toInt < 6 ∧ 0 ≤ i.toInt ∧ i.toInt + 1 ≤ (σ.1 13 k.toNatClampNeg).toInt by omega), if_neg (by decide), if_pos h2]
    · rw [if_neg (show ¬ (0 ≤ k.toInt ∧ k.toInt < 6 ∧ 0 ≤ i.toInt ∧ i.toInt + 1 ≤ (σ.1 13 k.toNatClampNeg).toInt) by omega), if_pos (by decide), if_neg h2]
theorem kp_has2 (σ : kw_S) (k : Int32) : f_X3_has_2 σ k = if 0 ≤ k.toInt ∧ k.toInt < 4 then 1 else 0 := by
  have q : (4 : Int32).toInt = 4 := rfl
  rw [f_X3_has_2_u]
  by_cases h : k.toInt < 0
  · rw [if_pos h, if_neg (by omega)]
  · rw [if_neg h]
    by_cases h2 : k.toInt < 4
    · rw [if_pos (by omega), if_pos (by omega)]
    · rw [if_neg (by omega), if_neg (by omega)]
theorem kp_size2 (σ : kw_S) (k : Int32) : f_X3_sizeOf_2 σ k = if 0 ≤ k.toInt ∧ k.toInt < 4 then σ.1 15 k.toNatClampNeg else -1 := by
  rw [f_X3_sizeOf_2_u]
  simp only [kf_lx, kp_has2]
  by_cases h : 0 ≤ k.toInt ∧ k.toInt < 4
  · simp only [if_pos h, kp_q1]; rfl
  · simp only [if_neg h, kp_q0]; rfl
theorem kp_miss2 (σ : kw_S) (k : Int32) : f_X3_isMissing_2 σ k = if 0 ≤ k.toInt ∧ k.toInt < 4 ∧ 0 ≤ (σ.1 15 k.toNatClampNeg).toInt then 0 else 1 := by
  rw [f_X3_isMissing_2_u]
  simp only [kf_lx, kp_size2]
  by_cases h : 0 ≤ k.toInt ∧ k.toInt < 4
  · simp only [if_pos h]
    by_cases h2 : (σ.1 15 k.toNatClampNeg).toInt < 0
    · rw [if_pos h2, if_neg (by omega)]
    · rw [if_neg h2, if_pos (by omega)]
  · simp only [if_neg h]
    rw [if_pos (by decide), if_neg (by omega)]
theorem kp_places2 (σ : kw_S) (hb : ∀ j : Nat, -1 ≤ (σ.1 15 j).toInt ∧ (σ.1 15 j).toInt ≤ 60) (k f n : Int32) (hn : 0 ≤ n.toInt) (hn2 : n.toInt ≤ 1000000) : f_X3_hasPlaces_2 σ k f n = if 0 ≤ k.toInt ∧ k.toInt < 4 ∧ 0 ≤ f.toInt ∧ f.toInt + n.toInt ≤ (σ.1 15 k.toNatClampNeg).toInt then 1 else 0 := by
  rw [f_X3_hasPlaces_2_u]
  simp only [kf_lx, kp_has2]
  have hb := hb k.toNatClampNeg
  have e := kw_subI (σ.1 15 k.toNatClampNeg) n
  by_cases h : 0 ≤ k.toInt ∧ k.toInt < 4
  · rw [if_pos h, if_neg (by decide)]
    by_cases hf : f.toInt < 0
    · rw [if_pos hf, if_neg (by omega)]
    · rw [if_neg hf, if_neg (by omega)]
      by_cases h3 : (σ.1 15 k.toNatClampNeg - n).toInt < f.toInt
      · rw [if_pos h3, if_neg (by omega)]
      · rw [if_neg h3, if_pos (by omega)]
  · rw [if_neg h, if_pos (by decide), if_neg (by omega)]
theorem kp_row2 (k : Int32) (h0 : 0 ≤ k.toInt) (h1 : k.toInt < 4) {β : Type} (A : Nat → β) (z : β) : (if k.toInt = 0 then A 35 else if k.toInt = 1 then A 36 else if k.toInt = 2 then A 37 else if k.toInt = 3 then A 38 else z) = A (35 + k.toNatClampNeg) := by
  have c := kw_clampI h0
  rcases (show k.toInt = 0 ∨ k.toInt = 1 ∨ k.toInt = 2 ∨ k.toInt = 3 by omega) with h | h | h | h
  · rw [show k.toNatClampNeg = 0 by omega]
    simp [h]
  · rw [show k.toNatClampNeg = 1 by omega]
    simp [h]
  · rw [show k.toNatClampNeg = 2 by omega]
    simp [h]
  · rw [show k.toNatClampNeg = 3 by omega]
    simp [h]
theorem kp_value2 (σ : kw_S) (hb : ∀ j : Nat, -1 ≤ (σ.1 15 j).toInt ∧ (σ.1 15 j).toInt ≤ 60) (k i : Int32) : f_X3_valueAt_2 σ k i = if 0 ≤ k.toInt ∧ k.toInt < 4 ∧ 0 ≤ i.toInt ∧ i.toInt < (σ.1 15 k.toNatClampNeg).toInt then σ.1 (35 + k.toNatClampNeg) i.toNatClampNeg else 1000 := by
  rw [f_X3_valueAt_2_u]
  simp only [kf_lx]
  rw [kp_places2 σ hb k i 1 (by decide) (by decide), kp_q1]
  by_cases h : 0 ≤ k.toInt ∧ k.toInt < 4 ∧ 0 ≤ i.toInt ∧ i.toInt < (σ.1 15 k.toNatClampNeg).toInt
  · rw [if_pos (show 0 ≤ k.toInt ∧ k.toInt < 4 ∧ 0 ≤ i.toInt ∧ i.toInt + 1 ≤ (σ.1 15 k.toNatClampNeg).toInt by omega), if_neg (by decide), if_pos h]
    exact kp_row2 k h.1 h.2.1 (fun a => σ.1 a i.toNatClampNeg) 0
  · rw [if_neg (show ¬ (0 ≤ k.toInt ∧ k.toInt < 4 ∧ 0 ≤ i.toInt ∧ i.toInt + 1 ≤ (σ.1 15 k.toNatClampNeg).toInt) by omega), if_pos (by decide), if_neg h]
theorem kp_change2 (σ : kw_S) (hb : ∀ j : Nat, -1 ≤ (σ.1 15 j).toInt ∧ (σ.1 15 j).toInt ≤ 60) (k i v : Int32) : f_X3_change_2 σ k i v = if 0 ≤ k.toInt ∧ k.toInt < 4 ∧ 0 ≤ i.toInt ∧ i.toInt < (σ.1 15 k.toNatClampNeg).toInt then kw_ui σ (35 + k.toNatClampNeg) i.toNatClampNeg v else σ := by
  rw [f_X3_change_2_u]
  simp only [kf_lx]
  rw [kp_places2 σ hb k i 1 (by decide) (by decide), kp_q1]
  by_cases h : 0 ≤ k.toInt ∧ k.toInt < 4 ∧ 0 ≤ i.toInt ∧ i.toInt < (σ.1 15 k.toNatClampNeg).toInt
  · rw [if_pos (show 0 ≤ k.toInt ∧ k.toInt < 4 ∧ 0 ≤ i.toInt ∧ i.toInt + 1 ≤ (σ.1 15 k.toNatClampNeg).toInt by omega), if_neg (by decide), if_pos h]
    exact kp_row2 k h.1 h.2.1 (fun a => kw_ui σ a i.toNatClampNeg v) σ
  · rw [if_neg (show ¬ (0 ≤ k.toInt ∧ k.toInt < 4 ∧ 0 ≤ i.toInt ∧ i.toInt + 1 ≤ (σ.1 15 k.toNatClampNeg).toInt) by omega), if_pos (by decide), if_neg h]
theorem kp_make2 (σ : kw_S) (hr : (σ.1 2 0).toInt = 60) (k n v : Int32) (h0 : 0 ≤ k.toInt) (h1 : k.toInt < 4) (h2 : 0 ≤ n.toInt) (h3 : n.toInt ≤ 60) : f_X3_make_2 σ k n v = kw_ua (kw_ui σ 15 k.toNatClampNeg n) (35 + k.toNatClampNeg) (fun j => if j < 60 then v else σ.1 (35 + k.toNatClampNeg) j) := by
  rw [f_X3_make_2_u]
  simp only [kf_lx, kp_has2]
  rw [if_pos (show 0 ≤ k.toInt ∧ k.toInt < 4 from ⟨h0, h1⟩), if_neg (by decide), if_neg (by omega), if_neg (by omega)]
  simp only [kp_fill35, kp_fill36, kp_fill37, kp_fill38]
  have c := kw_clampI h0
  have g : ∀ a : Nat, a ≠ 15 → (kw_ui σ 15 k.toNatClampNeg n).1 a = σ.1 a := fun a ha => by funext j; rw [kp_ui, if_neg (by omega)]
  simp only [g 35 (by decide), g 36 (by decide), g 37 (by decide), g 38 (by decide)]
  exact kp_row2 k h0 h1 (fun a => kw_ua (kw_ui σ 15 k.toNatClampNeg n) a (fun j => if j < 60 then v else σ.1 a j)) _
theorem kp_find2 (σ : kw_S) (hb : ∀ j : Nat, -1 ≤ (σ.1 15 j).toInt ∧ (σ.1 15 j).toInt ≤ 60) (k i : Int32) (h0 : 0 ≤ k.toInt) (h1 : k.toInt < 4) : f_X3_findingAt_2 σ k i = if (σ.1 15 k.toNatClampNeg).toInt < 0 then 1 else if 0 ≤ i.toInt ∧ i.toInt < (σ.1 15 k.toNatClampNeg).toInt then 0 else 2 := by
  rw [f_X3_findingAt_2_u]
  simp only [kf_lx, kp_miss2]
  rw [kp_places2 σ hb k i 1 (by decide) (by decide), kp_q1]
  by_cases h : (σ.1 15 k.toNatClampNeg).toInt < 0
  · rw [if_neg (show ¬ (0 ≤ k.toInt ∧ k.toInt < 4 ∧ 0 ≤ (σ.1 15 k.toNatClampNeg).toInt) by omega), if_neg (by decide), if_pos h]
  · rw [if_pos (show 0 ≤ k.toInt ∧ k.toInt < 4 ∧ 0 ≤ (σ.1 15 k.toNatClampNeg).toInt by omega), if_pos (by decide), if_neg h]
    by_cases h2 : 0 ≤ i.toInt ∧ i.toInt < (σ.1 15 k.toNatClampNeg).toInt
    · rw [if_pos (show 0 ≤ k.toInt ∧ k.toInt < 4 ∧ 0 ≤ i.toInt ∧ i.toInt + 1 ≤ (σ.1 15 k.toNatClampNeg).toInt by omega), if_neg (by decide), if_pos h2]
    · rw [if_neg (show ¬ (0 ≤ k.toInt ∧ k.toInt < 4 ∧ 0 ≤ i.toInt ∧ i.toInt + 1 ≤ (σ.1 15 k.toNatClampNeg).toInt) by omega), if_pos (by decide), if_neg h2]
theorem kp_has5 (σ : kw_S) (k : Int32) : f_X3_has_5 σ k = if 0 ≤ k.toInt ∧ k.toInt < 3 then 1 else 0 := by
  have q : (3 : Int32).toInt = 3 := rfl
  rw [f_X3_has_5_u]
  by_cases h : k.toInt < 0
  · rw [if_pos h, if_neg (by omega)]
  · rw [if_neg h]
    by_cases h2 : k.toInt < 3
    · rw [if_pos (by omega), if_pos (by omega)]
    · rw [if_neg (by omega), if_neg (by omega)]
theorem kp_size5 (σ : kw_S) (k : Int32) : f_X3_sizeOf_5 σ k = if 0 ≤ k.toInt ∧ k.toInt < 3 then σ.1 21 k.toNatClampNeg else -1 := by
  rw [f_X3_sizeOf_5_u]
  simp only [kf_lx, kp_has5]
  by_cases h : 0 ≤ k.toInt ∧ k.toInt < 3
  · simp only [if_pos h, kp_q1]; rfl
  · simp only [if_neg h, kp_q0]; rfl
theorem kp_miss5 (σ : kw_S) (k : Int32) : f_X3_isMissing_5 σ k = if 0 ≤ k.toInt ∧ k.toInt < 3 ∧ 0 ≤ (σ.1 21 k.toNatClampNeg).toInt then 0 else 1 := by
  rw [f_X3_isMissing_5_u]
  simp only [kf_lx, kp_size5]
  by_cases h : 0 ≤ k.toInt ∧ k.toInt < 3
  · simp only [if_pos h]
    by_cases h2 : (σ.1 21 k.toNatClampNeg).toInt < 0
    · rw [if_pos h2, if_neg (by omega)]
    · rw [if_neg h2, if_pos (by omega)]
  · simp only [if_neg h]
    rw [if_pos (by decide), if_neg (by omega)]
theorem kp_places5 (σ : kw_S) (hb : ∀ j : Nat, -1 ≤ (σ.1 21 j).toInt ∧ (σ.1 21 j).toInt ≤ 40) (k f n : Int32) (hn : 0 ≤ n.toInt) (hn2 : n.toInt ≤ 1000000) : f_X3_hasPlaces_5 σ k f n = if 0 ≤ k.toInt ∧ k.toInt < 3 ∧ 0 ≤ f.toInt ∧ f.toInt + n.toInt ≤ (σ.1 21 k.toNatClampNeg).toInt then 1 else 0 := by
  rw [f_X3_hasPlaces_5_u]
  simp only [kf_lx, kp_has5]
  have hb := hb k.toNatClampNeg
  have e := kw_subI (σ.1 21 k.toNatClampNeg) n
  by_cases h : 0 ≤ k.toInt ∧ k.toInt < 3
  · rw [if_pos h, if_neg (by decide)]
    by_cases hf : f.toInt < 0
    · rw [if_pos hf, if_neg (by omega)]
    · rw [if_neg hf, if_neg (by omega)]
      by_cases h3 : (σ.1 21 k.toNatClampNeg - n).toInt < f.toInt
      · rw [if_pos h3, if_neg (by omega)]
      · rw [if_neg h3, if_pos (by omega)]
  · rw [if_neg h, if_pos (by decide), if_neg (by omega)]
theorem kp_row5 (k : Int32) (h0 : 0 ≤ k.toInt) (h1 : k.toInt < 3) {β : Type} (A : Nat → β) (z : β) : (if k.toInt = 0 then A 49 else if k.toInt = 1 then A 50 else if k.toInt = 2 then A 51 else z) = A (49 + k.toNatClampNeg) := by
  have c := kw_clampI h0
  rcases (show k.toInt = 0 ∨ k.toInt = 1 ∨ k.toInt = 2 by omega) with h | h | h
  · rw [show k.toNatClampNeg = 0 by omega]
    simp [h]
  · rw [show k.toNatClampNeg = 1 by omega]
    simp [h]
  · rw [show k.toNatClampNeg = 2 by omega]
    simp [h]
theorem kp_value5 (σ : kw_S) (hb : ∀ j : Nat, -1 ≤ (σ.1 21 j).toInt ∧ (σ.1 21 j).toInt ≤ 40) (k i : Int32) : f_X3_valueAt_5 σ k i = if 0 ≤ k.toInt ∧ k.toInt < 3 ∧ 0 ≤ i.toInt ∧ i.toInt < (σ.1 21 k.toNatClampNeg).toInt then σ.1 (49 + k.toNatClampNeg) i.toNatClampNeg else 1000 := by
  rw [f_X3_valueAt_5_u]
  simp only [kf_lx]
  rw [kp_places5 σ hb k i 1 (by decide) (by decide), kp_q1]
  by_cases h : 0 ≤ k.toInt ∧ k.toInt < 3 ∧ 0 ≤ i.toInt ∧ i.toInt < (σ.1 21 k.toNatClampNeg).toInt
  · rw [if_pos (show 0 ≤ k.toInt ∧ k.toInt < 3 ∧ 0 ≤ i.toInt ∧ i.toInt + 1 ≤ (σ.1 21 k.toNatClampNeg).toInt by omega), if_neg (by decide), if_pos h]
    exact kp_row5 k h.1 h.2.1 (fun a => σ.1 a i.toNatClampNeg) 0
  · rw [if_neg (show ¬ (0 ≤ k.toInt ∧ k.toInt < 3 ∧ 0 ≤ i.toInt ∧ i.toInt + 1 ≤ (σ.1 21 k.toNatClampNeg).toInt) by omega), if_pos (by decide), if_neg h]
theorem kp_change5 (σ : kw_S) (hb : ∀ j : Nat, -1 ≤ (σ.1 21 j).toInt ∧ (σ.1 21 j).toInt ≤ 40) (k i v : Int32) : f_X3_change_5 σ k i v = if 0 ≤ k.toInt ∧ k.toInt < 3 ∧ 0 ≤ i.toInt ∧ i.toInt < (σ.1 21 k.toNatClampNeg).toInt then kw_ui σ (49 + k.toNatClampNeg) i.toNatClampNeg v else σ := by
  rw [f_X3_change_5_u]
  simp only [kf_lx]
  rw [kp_places5 σ hb k i 1 (by decide) (by decide), kp_q1]
  by_cases h : 0 ≤ k.toInt ∧ k.toInt < 3 ∧ 0 ≤ i.toInt ∧ i.toInt < (σ.1 21 k.toNatClampNeg).toInt
  · rw [if_pos (show 0 ≤ k.toInt ∧ k.toInt < 3 ∧ 0 ≤ i.toInt ∧ i.toInt + 1 ≤ (σ.1 21 k.toNatClampNeg).toInt by omega), if_neg (by decide), if_pos h]
    exact kp_row5 k h.1 h.2.1 (fun a => kw_ui σ a i.toNatClampNeg v) σ
  · rw [if_neg (show ¬ (0 ≤ k.toInt ∧ k.toInt < 3 ∧ 0 ≤ i.toInt ∧ i.toInt + 1 ≤ (σ.1 21 k.toNatClampNeg).toInt) by omega), if_pos (by decide), if_neg h]
theorem kp_make5 (σ : kw_S) (hr : (σ.1 5 0).toInt = 40) (k n v : Int32) (h0 : 0 ≤ k.toInt) (h1 : k.toInt < 3) (h2 : 0 ≤ n.toInt) (h3 : n.toInt ≤ 40) : f_X3_make_5 σ k n v = kw_ua (kw_ui σ 21 k.toNatClampNeg n) (49 + k.toNatClampNeg) (fun j => if j < 40 then v else σ.1 (49 + k.toNatClampNeg) j) := by
  rw [f_X3_make_5_u]
  simp only [kf_lx, kp_has5]
  rw [if_pos (show 0 ≤ k.toInt ∧ k.toInt < 3 from ⟨h0, h1⟩), if_neg (by decide), if_neg (by omega), if_neg (by omega)]
  simp only [kp_fill49, kp_fill50, kp_fill51]
  have c := kw_clampI h0
  have g : ∀ a : Nat, a ≠ 21 → (kw_ui σ 21 k.toNatClampNeg n).1 a = σ.1 a := fun a ha => by funext j; rw [kp_ui, if_neg (by omega)]
  simp only [g 49 (by decide), g 50 (by decide), g 51 (by decide)]
  exact kp_row5 k h0 h1 (fun a => kw_ua (kw_ui σ 21 k.toNatClampNeg n) a (fun j => if j < 40 then v else σ.1 a j)) _
