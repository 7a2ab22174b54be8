theorem kr_townD {x m s t : kw_S} {r q : Int32} (hX : kw_I bX x) (hT : kr_T x m) (hL : kr_L x m) (hD : kr_D x m) (k : Int32) (e1 : (r, s) = f_X7_town_0 x k) (e2 : (q, t) = f_X8_town_0 m k) : kr_D s t := by
  obtain ⟨-, hL', hc⟩ := kr_town hX hT hL k e1 e2
  rcases hc with ⟨FX, FM⟩ | ⟨z3, z4, z5, z6, z7, z19, z21, t22, t23, t24, t25, t27, t14, t16, l1, zhi⟩
  · exact hD.fr hL FX FM (by decide) (by decide)
  · have q0 : (0 : Int32).toNatClampNeg = 0 := rfl
    have d2 := hD.2.1
    have cn := kw_clampI d2.1
    obtain ⟨-, -, w3⟩ := kd_run_ok hL.2.1.2 (x.1 18) (x.1 4 3).toNatClampNeg (by omega) hD.2.2.2.1
    rw [← hD.2.2.1] at w3
    have eg : kd_get s = (0, 0, 0, 0, fun _ => 0) := kd_getE z5 z6 z7 z4 (fun j => by
      by_cases hj : j < 6
      · exact z19 j hj
      · rw [zhi j (by omega)]; exact (w3 j).2 (by omega))
    refine ⟨by rw [z3, t27], by rw [z3]; decide, ?_, ?_, ?_, ?_, fun k hk => Or.inl ⟨by rw [z21 k hk]; decide, t16 k hk⟩⟩
    · rw [z3, q0]; exact eg
    · rw [z3, q0]; intro d hd; omega
    · rw [eg]; exact ⟨t22, t23, t24, t25, fun i hi => t14 i hi⟩
    · rw [z3, q0]; intro d hd; omega
theorem kr_miles {x m s t : kw_S} {r q : Int32} (hD : kr_D x m) (e1 : (r, s) = f_X7_miles_0 x) (e2 : (q, t) = f_X8_miles_0 m) : r = q := by
  have h := hD.2.2.2.2.1.2.1
  rw [f_X7_miles_0_u] at e1
  rw [f_X8_miles_0_u] at e2
  simp only [kf_lx, kf_bx] at e1 e2
  obtain ⟨r1, -⟩ := Prod.mk.inj e1
  obtain ⟨r2, -⟩ := Prod.mk.inj e2
  have e23 : ∀ z : Int64, (f_X8_part_0 m z 1).2.1 0 23 = m.1 0 23 := fun z => (kp_part1 m z).1.2.1 23 (by decide)
  rw [r1, r2, e23, h]
  rfl
abbrev kr_R (x m : kw_S) : Prop := kr_T x m ∧ kr_L x m ∧ kr_D x m
theorem kr_R.fr {L L' : List Nat} {x x' m m' : kw_S} (h : kr_R x m) (F1 : kw_F L x x') (F2 : kw_FM L' m m') (h1 : ∀ a ∈ L, ¬ (a = 15 ∨ 35 ≤ a ∧ a < 39) ∧ ¬ (a = 17 ∨ 44 ≤ a ∧ a ≤ 48) ∧ ¬ (a = 4 ∨ a = 18 ∨ a = 19 ∨ a = 21 ∨ 49 ≤ a ∧ a ≤ 51 ∨ a = 17 ∨ 44 ≤ a ∧ a ≤ 48)) (h2 : ∀ a ∈ L', ¬ (a = 5 ∨ a = 6) ∧ (¬ (7 ≤ a ∧ a ≤ 11) ∧ a ≠ 1010 ∧ a ≠ 1011) ∧ ¬ (14 ≤ a ∧ a ≤ 17 ∨ a = 1022 ∨ a = 1023 ∨ a = 1024 ∨ a = 1025 ∨ a = 1027)) : kr_R x' m' :=
  ⟨h.1.fr F1 F2 (fun a q => (h1 a q).1) (fun a q => (h2 a q).1), h.2.1.fr F1 F2 (fun a q => (h1 a q).2.1) (fun a q => (h2 a q).2.1), h.2.2.fr h.2.1 F1 F2 (fun a q => (h1 a q).2.2) (fun a q => (h2 a q).2.2)⟩
