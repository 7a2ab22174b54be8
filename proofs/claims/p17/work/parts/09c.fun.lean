/-! ===== a method's function: bindings, branches, one by one ===== -/
def kf_l {α β : Type} (v : α) (k : α → β) : β := k v
def kf_b {α β : Type} (p : α × kw_S) (k : α → kw_S → β) : β := k p.1 p.2
theorem kf_le {α β : Type} {v z : α} {k : α → β} {t : β} (e : z = v) (h : kf_l v k = t) : k z = t := by subst e; exact h
theorem kf_be {α β : Type} {p : α × kw_S} {z : α} {s : kw_S} {k : α → kw_S → β} {t : β} (e : (z, s) = p) (h : kf_b p k = t) : k z s = t := by subst e; exact h
theorem kf_p {β : Type} {c : Prop} {i : Decidable c} {a b t : β} (h : c) (e : @ite β c i a b = t) : a = t := by rw [if_pos h] at e; exact e
theorem kf_n {β : Type} {c : Prop} {i : Decidable c} {a b t : β} (h : ¬ c) (e : @ite β c i a b = t) : b = t := by rw [if_neg h] at e; exact e
theorem kf_nl {β : Type} {x y : Int} {i : Decidable (x < y)} {a b t : β} (h : y ≤ x) (e : @ite β (x < y) i a b = t) : b = t := by rw [if_neg (Int.not_lt.mpr h)] at e; exact e
theorem kf_st {β : Type} {a b t : β} (e : a = b) (h : a = t) : b = t := e.symm.trans h
