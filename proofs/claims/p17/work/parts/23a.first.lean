theorem kc_bX0 (a j : Nat) (h : ¬ (a = 1 ∧ j = 0) ∧ ¬ (a = 2 ∧ j = 0) ∧ ¬ (a = 5 ∧ j = 0)) : (bX a j).1 ≤ 0 ∧ 0 ≤ (bX a j).2 := by
  unfold bX
  split <;> first | (split <;> simp_all) | simp_all
theorem kc_bM0 (a j : Nat) (h : ¬ (a = 0 ∧ j = 11)) : (bM 0 a j).1 ≤ 0 ∧ 0 ≤ (bM 0 a j).2 := by
  unfold bM
  split
  · split <;> simp_all
  · simp
  · simp
  · split
    · simp
    · split <;> simp
  · split
    · simp
    · split
      · simp
      · split <;> simp
  · simp
theorem kc_upd {f : Nat → Int32} {v : Int32} (h : ∀ j, f j = v ∨ f j = 0) (i : Nat) : ∀ j, upd f i v j = v ∨ upd f i v j = 0 := by
  intro j
  by_cases hj : j = i
  · subst hj; exact Or.inl (by simp [upd])
  · rcases h j with q | q
    · exact Or.inl (by simp [upd, hj, q])
    · exact Or.inr (by simp [upd, hj, q])
theorem kc_SXz (a j : Nat) (h : a ≠ 1 ∧ a ≠ 2 ∧ a ≠ 5 ∧ a ≠ 13 ∧ a ≠ 15 ∧ a ≠ 21) : kc_SX.1 a j = 0 := by
  simp [kc_SX, h]
theorem kc_SMz (a j : Nat) (h : a ≠ 0 ∧ a ≠ 2 ∧ a ≠ 5) : kc_SM.1 a j = 0 := by
  simp [kc_SM, h]
theorem kc_IX : kw_I bX kc_SX := by
  intro a j
  by_cases h1 : a = 1 ∨ a = 2 ∨ a = 5
  · by_cases hj : j = 0
    · subst hj
      rcases h1 with rfl | rfl | rfl <;> decide
    · have e : kc_SX.1 a j = 0 := by
        rcases h1 with rfl | rfl | rfl <;> simp [kc_SX, hj]
      rw [e]
      exact kc_bX0 a j (by omega)
  · by_cases h2 : a = 13 ∨ a = 15 ∨ a = 21
    · have e : kc_SX.1 a j = -1 ∨ kc_SX.1 a j = 0 := by
        rcases h2 with rfl | rfl | rfl
        · by_cases q : j < 6 <;> simp [kc_SX, q]
        · by_cases q : j < 4 <;> simp [kc_SX, q]
        · by_cases q : j < 3 <;> simp [kc_SX, q]
      rcases h2 with rfl | rfl | rfl <;> rcases e with e | e <;> rw [e]
      · exact (show (-1 : Int) ≤ (-1 : Int32).toInt ∧ (-1 : Int32).toInt ≤ 40 by decide)
      · exact (show (-1 : Int) ≤ (0 : Int32).toInt ∧ (0 : Int32).toInt ≤ 40 by decide)
      · exact (show (-1 : Int) ≤ (-1 : Int32).toInt ∧ (-1 : Int32).toInt ≤ 60 by decide)
      · exact (show (-1 : Int) ≤ (0 : Int32).toInt ∧ (0 : Int32).toInt ≤ 60 by decide)
      · exact (show (-1 : Int) ≤ (-1 : Int32).toInt ∧ (-1 : Int32).toInt ≤ 40 by decide)
      · exact (show (-1 : Int) ≤ (0 : Int32).toInt ∧ (0 : Int32).toInt ≤ 40 by decide)
    · rw [kc_SXz a j (by omega)]
      exact kc_bX0 a j (by omega)
theorem kc_IM : kw_I (bM 0) kc_SM := by
  intro a j
  by_cases h0 : a = 0
  · subst h0
    by_cases hj : j = 11
    · subst hj; decide
    · have e : kc_SM.1 0 j = 0 := by simp [kc_SM, hj]
      rw [e]
      exact kc_bM0 0 j (by omega)
  · by_cases h2 : a = 2 ∨ a = 5
    · have e : kc_SM.1 a j = -9 ∨ kc_SM.1 a j = 0 := by
        rcases h2 with rfl | rfl
        · exact kc_upd (kc_upd (kc_upd (kc_upd (kc_upd (kc_upd (fun _ => Or.inr rfl) 0) 1) 2) 3) 4) 5 j
        · exact kc_upd (kc_upd (kc_upd (kc_upd (fun _ => Or.inr rfl) 0) 1) 2) 3 j
      rcases h2 with rfl | rfl <;> rcases e with e | e <;> rw [e]
      · exact (show (-9 : Int) ≤ (-9 : Int32).toInt ∧ (-9 : Int32).toInt ≤ 40 by decide)
      · exact (show (-9 : Int) ≤ (0 : Int32).toInt ∧ (0 : Int32).toInt ≤ 40 by decide)
      · exact (show (-9 : Int) ≤ (-9 : Int32).toInt ∧ (-9 : Int32).toInt ≤ 60 by decide)
      · exact (show (-9 : Int) ≤ (0 : Int32).toInt ∧ (0 : Int32).toInt ≤ 60 by decide)
    · rw [kc_SMz a j (by omega)]
      exact kc_bM0 a j (by omega)
