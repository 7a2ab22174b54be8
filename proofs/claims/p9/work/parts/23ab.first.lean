theorem kr_T0 : kr_T (kw_mixM kc_SX kc_SM) kc_SM := by
  refine kr_T.cong (x := kc_SX) ?_ (fun a ha => by simp [kw_mixM, show a < 61 by omega]) (fun _ _ => rfl)
  refine ⟨fun t ht => Or.inl ?_, fun t i ht hi => ?_⟩
  · rcases (show t = 0 ∨ t = 1 ∨ t = 2 ∨ t = 3 by omega) with rfl | rfl | rfl | rfl <;> exact ⟨by decide, by decide⟩
  · rw [kc_SXz (35 + t) i (by omega), kc_SMz 6 _ (by omega)]
