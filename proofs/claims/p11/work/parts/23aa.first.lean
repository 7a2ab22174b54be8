theorem kr_T0 : kr_T (kw_mixM kc_SX kc_SM) kc_SM := by
  refine kr_T.cong (x := kc_SX) ?_ (fun a ha => by simp [kw_mixM, show a < 61 by omega]) (fun _ _ => rfl)
  refine ⟨fun t ht => Or.inl ?_, fun t i ht hi => ?_⟩
  · rcases (show t = 0 ∨ t = 1 ∨ t = 2 ∨ t = 3 by omega) with rfl | rfl | rfl | rfl <;> exact ⟨by decide, by decide⟩
  · rw [kc_SXz (35 + t) i (by omega), kc_SMz 6 _ (by omega)]
theorem kr_L0 : kr_L (kw_mixM kc_SX kc_SM) kc_SM := by
  refine kr_L.cong (x := kc_SX) (m := kc_SM) ?_ (fun a ha => by simp [kw_mixM, show a < 61 by omega]) (fun _ _ => rfl) rfl rfl
  have e : kc_SX.1 17 5 = 0 := kc_SXz 17 5 (by omega)
  refine ⟨by rw [e]; rfl, by rw [e]; decide, Or.inl ⟨by rw [e]; rfl, kc_SXz 17 6 (by omega), rfl, kc_SMz 7 0 (by omega)⟩, fun i hi => ?_⟩
  rw [e, kp_q0] at hi
  omega
