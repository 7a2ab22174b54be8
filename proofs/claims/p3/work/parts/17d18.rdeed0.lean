theorem kr_townD {x m s t : kw_S} {r q : Int32} (hX : kw_I bX x) (hT : kr_T x m) (hL : kr_L x m) (hD : kr_D x m) (k : Int32) (e1 : (r, s) = f_X7_town_0 x k) (e2 : (q, t) = f_X8_town_0 m k) : kr_D s t := by
  obtain ⟨-, hL', hc⟩ := kr_town hX hT hL k e1 e2
  rcases hc with ⟨FX, FM⟩ | ⟨z3, z4, z5, z6, z7, z19, z21, t22, t23, t24, t25, t27, t14, t16, l1, zhi⟩
  · exact hD.fr hL FX FM (by decide) (by decide)
  · have q0 : (0 : Int32).toNatClampNeg = 0 := rfl
    have d2 := hD.2.1
    have cn := kw_clampI d2.1
    obtain ⟨-, -, w3⟩ := kd_run_ok hL.2.1.2 (x.1 18) (x.1 4 3).toNatClampNeg (by omega) hD.2.2.2.1
    rw [← hD.2.2.1] at w3
    have eg : kd_get s = (0, 0, 0, 0, fun _ => 0) := kd_getE z5 z6 z7 z4 (fun j => by
      by_cases hj : j < 6
      · exact z19 j hj
      · rw [zhi j (by omega)]; exact (w3 j).2 (by omega))
    refine ⟨by rw [z3, t27], by rw [z3]; decide, ?_, ?_, ?_, ?_, fun k hk => Or.inl ⟨by rw [z21 k hk]; decide, t16 k hk⟩⟩
    · rw [z3, q0]; exact eg
    · rw [z3, q0]; intro d hd; omega
    · rw [eg]; exact ⟨t22, t23, t24, t25, fun i hi => t14 i hi⟩
    · rw [z3, q0]; intro d hd; omega
theorem kr_miles {x m s t : kw_S} {r q : Int32} (hD : kr_D x m) (e1 : (r, s) = f_X7_miles_0 x) (e2 : (q, t) = f_X8_miles_0 m) : r = q := by
  have h := hD.2.2.2.2.1.2.1
  rw [f_X7_miles_0_u] at e1
  rw [f_X8_miles_0_u] at e2
  simp only [kf_lx, kf_bx] at e1 e2
  obtain ⟨r1, -⟩ := Prod.mk.inj e1
  obtain ⟨r2, -⟩ := Prod.mk.inj e2
  have e23 : ∀ z : Int64, (f_X8_part_0 m z 1).2.1 0 23 = m.1 0 23 := fun z => (kp_part1 m z).1.2.1 23 (by decide)
  rw [r1, r2, e23, h]
  rfl
