noncomputable def f_X8_farBy_0 (σ : kw_S) (n : Int32) (t : Int32) : Int32 × kw_S := if n.toInt = 0 then f_X8_farByvn0_0 σ t else if n.toInt = 1 then f_X8_farByvn1_0 σ t else if n.toInt = 2 then f_X8_farByvn2_0 σ t else f_X8_farByvn3_0 σ t
abbrev p_X8_farBy_0 (T : Int) (σ : kw_S) (n : Int32) (t : Int32) : Option Value → kw_S → Prop := fun vv σ' => (kw_I (bM T) σ' ∧ kw_FM [20] σ σ') ∧ ∃ r : Int32, vv = some (.int r) ∧ (r, σ') = f_X8_farBy_0 σ n t
theorem c_X8_farBy_0 (l : Launch) (T : Int) (hT0 : 0 ≤ T) (hT1 : T ≤ 3000) (σ : kw_S) (hI : kw_I (bM T) σ) (n : Int32) (t : Int32) (hp0 : 0 ≤ n.toInt) (hp1 : n.toInt ≤ 3) : kw_Met l 2 KM mX8_farBy [.ref 0, .int n, .int t] σ (p_X8_farBy_0 T σ n t) := by
  have h : n.toInt = 0 ∨ n.toInt = 1 ∨ n.toInt = 2 ∨ n.toInt = 3 := by omega
  rcases h with h | h | h | h
  · have e : n = 0 := Int32.toInt_inj.mp (h.trans (show (0 : Int) = (0 : Int32).toInt from rfl))
    subst e
    exact c_X8_farByvn0_0 l T hT0 hT1 σ hI t
  · have e : n = 1 := Int32.toInt_inj.mp (h.trans (show (1 : Int) = (1 : Int32).toInt from rfl))
    subst e
    exact c_X8_farByvn1_0 l T hT0 hT1 σ hI t
  · have e : n = 2 := Int32.toInt_inj.mp (h.trans (show (2 : Int) = (2 : Int32).toInt from rfl))
    subst e
    exact c_X8_farByvn2_0 l T hT0 hT1 σ hI t
  · have e : n = 3 := Int32.toInt_inj.mp (h.trans (show (3 : Int) = (3 : Int32).toInt from rfl))
    subst e
    exact c_X8_farByvn3_0 l T hT0 hT1 σ hI t
