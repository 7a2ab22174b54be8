theorem kr_T0 : kr_T (kw_mixM kc_SX kc_SM) kc_SM := by
  refine kr_T.cong (x := kc_SX) ?_ (fun a ha => by simp [kw_mixM, show a < 61 by omega]) (fun _ _ => rfl)
  refine ⟨fun t ht => Or.inl ?_, fun t i ht hi => ?_⟩
  · rcases (show t = 0 ∨ t = 1 ∨ t = 2 ∨ t = 3 by omega) with rfl | rfl | rfl | rfl <;> exact ⟨by decide, by decide⟩
  · rw [kc_SXz (35 + t) i (by omega), kc_SMz 6 _ (by omega)]
theorem kr_L0 : kr_L (kw_mixM kc_SX kc_SM) kc_SM := by
  refine kr_L.cong (x := kc_SX) (m := kc_SM) ?_ (fun a ha => by simp [kw_mixM, show a < 61 by omega]) (fun _ _ => rfl) rfl rfl
  have e : kc_SX.1 17 5 = 0 := kc_SXz 17 5 (by omega)
  refine ⟨by rw [e]; rfl, by rw [e]; decide, Or.inl ⟨by rw [e]; rfl, kc_SXz 17 6 (by omega), rfl, kc_SMz 7 0 (by omega)⟩, fun i hi => ?_⟩
  rw [e, kp_q0] at hi
  omega
theorem kr_D0 : kr_D (kw_mixM kc_SX kc_SM) kc_SM := by
  have l0 : (kc_SX.1 17 5).toInt ≤ 6 := by rw [kc_SXz 17 5 (by omega)]; decide
  refine kr_D.cong (x := kc_SX) (m := kc_SM) ?_ l0 (fun a ha => by simp [kw_mixM, show a < 61 by omega]) (fun a ha => by simp [kw_mixM, show a < 61 by omega]) (fun _ _ => rfl) (fun _ _ => rfl)
  have q0 : (0 : Int32).toNatClampNeg = 0 := rfl
  have e43 : kc_SX.1 4 3 = 0 := kc_SXz 4 3 (by omega)
  have eg : kd_get kc_SX = (0, 0, 0, 0, fun _ => 0) := kd_getE (kc_SXz 4 5 (by omega)) (kc_SXz 4 6 (by omega)) (kc_SXz 4 7 (by omega)) (kc_SXz 4 4 (by omega)) (fun j => kc_SXz 19 j (by omega))
  have z0 : ∀ j : Nat, j ≠ 11 → kc_SM.1 0 j = 0 := fun j hj => by simp [kc_SM, hj]
  refine ⟨by rw [e43, z0 27 (by decide)], by rw [e43]; decide, ?_, ?_, ?_, ?_, fun k hk => Or.inl ⟨?_, kc_SMz 16 k (by omega)⟩⟩
  · rw [e43, q0]; exact eg
  · rw [e43, q0]; intro d hd; omega
  · rw [eg]; exact ⟨z0 22 (by decide), z0 23 (by decide), z0 24 (by decide), z0 25 (by decide), fun i _ => kc_SMz 14 i (by omega)⟩
  · rw [e43, q0]; intro d hd; omega
  · rcases (show k = 0 ∨ k = 1 ∨ k = 2 by omega) with rfl | rfl | rfl <;> decide
