/-! ===== far 2: the class's find ===== -/
noncomputable def kg_W (x : kw_S) (k : Nat) : Int32 := f_X1_windAt_17 x (x.1 4 5 + Int32.ofNat k)
noncomputable def kg_M (x : kw_S) (k s : Nat) : Int32 := f_X1_milesOf_17 x (Int32.ofNat s) (kg_W x k)
noncomputable def kg_T (x : kw_S) (k s : Nat) : Int32 := f_X1_turnOf_17 x (Int32.ofNat s) (kg_W x k)
noncomputable def kg_Un (x : kw_S) (k : Nat) : Int := (kz_p x (kg_W x k) (x.1 17 5).toNatClampNeg).tdiv 4
theorem kg_plus (a : Int32) (k : Nat) (a0 : 0 ≤ a.toInt) (a1 : a.toInt ≤ 1000) (hk : k < 10) : (a + Int32.ofNat k).toInt = a.toInt + k := by
  rw [kw_addI, kz_ofNatI k (by omega)]; omega
theorem kg_wind {x m : kw_S} (hL : kr_L x m) (hD : kr_D x m) (k : Nat) (hk : k < 10) : 0 ≤ (kg_W x k).toInt ∧ (kg_W x k).toInt ≤ 5 := by
  have n1 := (kd_now hL hD).1
  have e := kg_plus (x.1 4 5) k (by omega) (by omega) hk
  exact kh_wind hL _ (by omega)
theorem kg_isok {x m : kw_S} (hL : kr_L x m) (hD : kr_D x m) (n : Nat) (hn : n ≤ 3) : kg_ok (kg_M x) (kg_Un x) (2 ^ (x.1 17 5).toNatClampNeg) n := by
  have l2 := hL.2.1
  have cl := kw_clampI l2.1
  have pw := kc_pow (x.1 17 5).toNatClampNeg (by omega)
  refine ⟨fun k s hk hs => ?_, fun k hk => ?_⟩
  · have wb := kg_wind hL hD k (by omega)
    have es := kz_ofNatI s (by omega)
    have cs := kw_clampI (x := Int32.ofNat s) (by omega)
    have h := kz_miles hL (kg_W x k) wb.1 (by omega) (Int32.ofNat s) (by omega) (by omega)
    have b := kz_bound hL (kg_W x k) wb.1 (by omega) (Int32.ofNat s).toNatClampNeg (x.1 17 5).toNatClampNeg (by omega)
    have b2 := b.2.1
    have b3 := kz_mono _ _ b.2.2.1
    have b4 := kz_mono (-720) _ (show -720 ≤ kz_s x (kg_W x k) (Int32.ofNat s).toNatClampNeg (x.1 17 5).toNatClampNeg by omega)
    have b5 : Int.tdiv (-720) 4 = -180 := rfl
    unfold kg_M kg_Un
    rw [h]
    exact ⟨by omega, b3⟩
  · have wb := kg_wind hL hD k (by omega)
    have b := kz_bound hL (kg_W x k) wb.1 (by omega) 0 (x.1 17 5).toNatClampNeg (by omega)
    have b3 := kz_mono 0 _ b.2.2.2.1
    have b4 := kz_mono _ 720 (show kz_p x (kg_W x k) (x.1 17 5).toNatClampNeg ≤ 720 by have := b.2.2.2.2.1; omega)
    have b5 : Int.tdiv 720 4 = 180 := rfl
    have b6 : Int.tdiv 0 4 = 0 := rfl
    unfold kg_Un
    omega
theorem kz_p_lay {x y : kw_S} (h : kd_lay x y) (w : Int32) : ∀ n : Nat, kz_p y w n = kz_p x w n
  | 0 => rfl
  | n + 1 => by rw [kz_pS, kz_pS, kz_p_lay h w n, h.pullOf]
def kg_Ey (x : kw_S) (n : Nat) (lim : Int32) (y : Int) (S : kw_S) : Prop := (kw_F [7, 26, 52, 53, 54, 55, 56, 57, 58, 59, 60] x S) ∧ ((S.1 7 6).toInt = n) ∧ (S.1 7 7 = lim) ∧ ((S.1 7 5).toInt = 0) ∧ (∀ j : Nat, j ≤ n → y < (j : Int) → (S.1 26 j).toInt = kg_U (kg_Un x) (n - j) j) ∧ (0 < n → y < 0 → (S.1 52 3).toInt = (2 ^ (x.1 17 5).toNatClampNeg : Nat) ∧ ∀ s : Int32, 0 ≤ s.toInt → s.toInt < (2 ^ (x.1 17 5).toNatClampNeg : Nat) → f_X0_milesOf_52 S s = kg_M x 0 s.toNatClampNeg ∧ f_X0_turnBy_52 S s = kg_T x 0 s.toNatClampNeg) ∧ (1 < n → y < 1 → (S.1 53 3).toInt = (2 ^ (x.1 17 5).toNatClampNeg : Nat) ∧ ∀ s : Int32, 0 ≤ s.toInt → s.toInt < (2 ^ (x.1 17 5).toNatClampNeg : Nat) → f_X0_milesOf_53 S s = kg_M x 1 s.toNatClampNeg ∧ f_X0_turnBy_53 S s = kg_T x 1 s.toNatClampNeg) ∧ (2 < n → y < 2 → (S.1 54 3).toInt = (2 ^ (x.1 17 5).toNatClampNeg : Nat) ∧ ∀ s : Int32, 0 ≤ s.toInt → s.toInt < (2 ^ (x.1 17 5).toNatClampNeg : Nat) → f_X0_milesOf_54 S s = kg_M x 2 s.toNatClampNeg ∧ f_X0_turnBy_54 S s = kg_T x 2 s.toNatClampNeg)
theorem kg_Ey.fr {x : kw_S} {n : Nat} {lim : Int32} {y : Int} {S : kw_S} (h : kg_Ey x n lim y S) : kw_F [7, 26, 52, 53, 54, 55, 56, 57, 58, 59, 60] x S := h.1
theorem kg_Ey.h6 {x : kw_S} {n : Nat} {lim : Int32} {y : Int} {S : kw_S} (h : kg_Ey x n lim y S) : (S.1 7 6).toInt = n := h.2.1
theorem kg_Ey.h7 {x : kw_S} {n : Nat} {lim : Int32} {y : Int} {S : kw_S} (h : kg_Ey x n lim y S) : S.1 7 7 = lim := h.2.2.1
theorem kg_Ey.h5 {x : kw_S} {n : Nat} {lim : Int32} {y : Int} {S : kw_S} (h : kg_Ey x n lim y S) : (S.1 7 5).toInt = 0 := h.2.2.2.1
theorem kg_Ey.h26 {x : kw_S} {n : Nat} {lim : Int32} {y : Int} {S : kw_S} (h : kg_Ey x n lim y S) : ∀ j : Nat, j ≤ n → y < (j : Int) → (S.1 26 j).toInt = kg_U (kg_Un x) (n - j) j := h.2.2.2.2.1
theorem kg_Ey.c0 {x : kw_S} {n : Nat} {lim : Int32} {y : Int} {S : kw_S} (h : kg_Ey x n lim y S) : 0 < n → y < 0 → (S.1 52 3).toInt = (2 ^ (x.1 17 5).toNatClampNeg : Nat) ∧ ∀ s : Int32, 0 ≤ s.toInt → s.toInt < (2 ^ (x.1 17 5).toNatClampNeg : Nat) → f_X0_milesOf_52 S s = kg_M x 0 s.toNatClampNeg ∧ f_X0_turnBy_52 S s = kg_T x 0 s.toNatClampNeg := h.2.2.2.2.2.1
theorem kg_Ey.c1 {x : kw_S} {n : Nat} {lim : Int32} {y : Int} {S : kw_S} (h : kg_Ey x n lim y S) : 1 < n → y < 1 → (S.1 53 3).toInt = (2 ^ (x.1 17 5).toNatClampNeg : Nat) ∧ ∀ s : Int32, 0 ≤ s.toInt → s.toInt < (2 ^ (x.1 17 5).toNatClampNeg : Nat) → f_X0_milesOf_53 S s = kg_M x 1 s.toNatClampNeg ∧ f_X0_turnBy_53 S s = kg_T x 1 s.toNatClampNeg := h.2.2.2.2.2.2.1
theorem kg_Ey.c2 {x : kw_S} {n : Nat} {lim : Int32} {y : Int} {S : kw_S} (h : kg_Ey x n lim y S) : 2 < n → y < 2 → (S.1 54 3).toInt = (2 ^ (x.1 17 5).toNatClampNeg : Nat) ∧ ∀ s : Int32, 0 ≤ s.toInt → s.toInt < (2 ^ (x.1 17 5).toNatClampNeg : Nat) → f_X0_milesOf_54 S s = kg_M x 2 s.toNatClampNeg ∧ f_X0_turnBy_54 S s = kg_T x 2 s.toNatClampNeg := h.2.2.2.2.2.2.2
theorem kg_Ey.env {x S : kw_S} {n : Nat} {lim : Int32} {y : Int} (h : kg_Ey x n lim y S) (hy : y < 0) : kg_E (kg_M x) (kg_T x) (kg_Un x) (2 ^ (x.1 17 5).toNatClampNeg) n lim S :=
  ⟨h.h6, h.h7, fun j hj => h.h26 j hj (by omega), fun q => h.c0 q hy, fun q => h.c1 q (by omega), fun q => h.c2 q (by omega)⟩
theorem kg_draw0 {x m S : kw_S} (hL : kr_L x m) (hD : kr_D x m) {n : Nat} {lim : Int32} (hn : n ≤ 3) (hk : 0 < n) (h : kg_Ey x n lim 0 S) : kg_Ey x n lim (0 - 1) (kw_ui (f_X0_draw_52_17 S (f_X5_windAhead_4 S 0)) 26 0 ((f_X0_draw_52_17 S (f_X5_windAhead_4 S 0)).1 26 (0 + 1) + f_X1_mostMilesOf_17 (f_X0_draw_52_17 S (f_X5_windAhead_4 S 0)) (f_X1_allLines_17 (f_X0_draw_52_17 S (f_X5_windAhead_4 S 0))) (f_X5_windAhead_4 S 0))) := by
  have l2 := hL.2.1
  have lay : kd_lay x S := kd_lay.of h.fr (by decide)
  have ew : f_X5_windAhead_4 S 0 = kg_W x 0 := by
    rw [f_X5_windAhead_4_u]
    simp only [kf_lx]
    rw [lay.windAt, (h.fr 4 (by decide)).1]
    rfl
  have e5 : S.1 17 5 = x.1 17 5 := by rw [(h.fr 17 (by decide)).1]
  have wb := kg_wind hL hD 0 (by omega)
  rw [ew]
  obtain ⟨d1, d2, -, -⟩ := kc_draw52 S (kg_W x 0) (by rw [e5]; omega) (by rw [e5]; omega)
  have dm := fun s : Int32 => kc_cm52 S (f_X0_draw_52_17 S (kg_W x 0)) (kg_W x 0) s (by rw [e5]; omega) (by rw [e5]; omega) (fun _ _ => rfl)
  generalize f_X0_draw_52_17 S (kg_W x 0) = S5 at *
  have lay5 : kd_lay x S5 := lay.tr (kd_lay.of d1 (by decide))
  have hL5 : kr_L S5 m := hL.cong (fun a ha => lay5 a ha) (fun _ _ => rfl) rfl rfl
  have e55 : S5.1 17 5 = x.1 17 5 := by rw [lay5 17 (by omega)]
  have em : (f_X1_mostMilesOf_17 S5 (f_X1_allLines_17 S5) (kg_W x 0)).toInt = kg_Un x 0 := by
    rw [kz_most hL5 (kg_W x 0) wb.1 (by omega), e55, kz_p_lay lay5]
    rfl
  have e26 : (S5.1 26 (0 + 1)).toInt = kg_U (kg_Un x) (n - (0 + 1)) (0 + 1) := by
    rw [(d1 26 (by decide)).1]
    exact h.h26 (0 + 1) (by omega) (by omega)
  have ok := kg_isok hL hD n hn
  have b1 := ok.2 0 hk
  have b2 := kg_Ub (kg_Un x) n ok.2 (n - (0 + 1)) (0 + 1) (by omega)
  generalize hv : S5.1 26 (0 + 1) + f_X1_mostMilesOf_17 S5 (f_X1_allLines_17 S5) (kg_W x 0) = v
  have ev : v.toInt = kg_U (kg_Un x) (n - 0) 0 := by
    rw [← hv, kw_addI, e26, em, show n - 0 = (n - (0 + 1)) + 1 by omega]
    show _ = kg_Un x 0 + kg_U (kg_Un x) (n - (0 + 1)) (0 + 1)
    omega
  have F : kw_F [7, 26, 52, 53, 54, 55, 56, 57, 58, 59, 60] x (kw_ui S5 26 0 v) := kw_F_ui (h.fr.tr d1 (by decide)) (by decide)
  have other : ∀ a : Nat, ¬ a = 26 → (kw_ui S5 26 0 v).1 a = S5.1 a := fun a ha => by
    funext j
    rw [kp_ui, if_neg (fun z => ha z.1)]
  refine ⟨F, ?_, ?_, ?_, fun j hj hy => ?_, fun q hy => ?_, fun q hy => ?_, fun q hy => ?_⟩
  · rw [other 7 (by decide), (d1 7 (by decide)).1]; exact h.h6
  · rw [other 7 (by decide), (d1 7 (by decide)).1]; exact h.h7
  · rw [other 7 (by decide), (d1 7 (by decide)).1]; exact h.h5
  · rw [kp_ui]
    by_cases e : j = 0
    · rw [if_pos ⟨rfl, e⟩, e]; exact ev
    · rw [if_neg (fun z => e z.2), (d1 26 (by decide)).1]
      exact h.h26 j hj (by omega)
  · rw [other 52 (by decide)]
    refine ⟨by rw [d2, e5], fun s s0 s1 => ?_⟩
    have u := dm s s0 (by rw [e5]; exact s1)
    have cs := kd_ofNat s s0
    rw [f_X0_milesOf_52_u, f_X0_turnBy_52_u] at u ⊢
    rw [other 55 (by decide), other 56 (by decide), u.1, u.2, lay.miles, lay.turn]
    unfold kg_M kg_T
    rw [cs]
    exact ⟨rfl, rfl⟩
  · have u := h.c1 q (by omega)
    rw [other 53 (by decide), (d1 53 (by decide)).1]
    refine ⟨u.1, fun s s0 s1 => ?_⟩
    have v := u.2 s s0 s1
    rw [f_X0_milesOf_53_u, f_X0_turnBy_53_u] at v ⊢
    rw [other 57 (by decide), other 58 (by decide), (d1 57 (by decide)).1, (d1 58 (by decide)).1]
    exact v
  · have u := h.c2 q (by omega)
    rw [other 54 (by decide), (d1 54 (by decide)).1]
    refine ⟨u.1, fun s s0 s1 => ?_⟩
    have v := u.2 s s0 s1
    rw [f_X0_milesOf_54_u, f_X0_turnBy_54_u] at v ⊢
    rw [other 59 (by decide), other 60 (by decide), (d1 59 (by decide)).1, (d1 60 (by decide)).1]
    exact v
theorem kg_draw1 {x m S : kw_S} (hL : kr_L x m) (hD : kr_D x m) {n : Nat} {lim : Int32} (hn : n ≤ 3) (hk : 1 < n) (h : kg_Ey x n lim 1 S) : kg_Ey x n lim (1 - 1) (kw_ui (f_X0_draw_53_17 S (f_X5_windAhead_4 S 1)) 26 1 ((f_X0_draw_53_17 S (f_X5_windAhead_4 S 1)).1 26 (1 + 1) + f_X1_mostMilesOf_17 (f_X0_draw_53_17 S (f_X5_windAhead_4 S 1)) (f_X1_allLines_17 (f_X0_draw_53_17 S (f_X5_windAhead_4 S 1))) (f_X5_windAhead_4 S 1))) := by
  have l2 := hL.2.1
  have lay : kd_lay x S := kd_lay.of h.fr (by decide)
  have ew : f_X5_windAhead_4 S 1 = kg_W x 1 := by
    rw [f_X5_windAhead_4_u]
    simp only [kf_lx]
    rw [lay.windAt, (h.fr 4 (by decide)).1]
    rfl
  have e5 : S.1 17 5 = x.1 17 5 := by rw [(h.fr 17 (by decide)).1]
  have wb := kg_wind hL hD 1 (by omega)
  rw [ew]
  obtain ⟨d1, d2, -, -⟩ := kc_draw53 S (kg_W x 1) (by rw [e5]; omega) (by rw [e5]; omega)
  have dm := fun s : Int32 => kc_cm53 S (f_X0_draw_53_17 S (kg_W x 1)) (kg_W x 1) s (by rw [e5]; omega) (by rw [e5]; omega) (fun _ _ => rfl)
  generalize f_X0_draw_53_17 S (kg_W x 1) = S5 at *
  have lay5 : kd_lay x S5 := lay.tr (kd_lay.of d1 (by decide))
  have hL5 : kr_L S5 m := hL.cong (fun a ha => lay5 a ha) (fun _ _ => rfl) rfl rfl
  have e55 : S5.1 17 5 = x.1 17 5 := by rw [lay5 17 (by omega)]
  have em : (f_X1_mostMilesOf_17 S5 (f_X1_allLines_17 S5) (kg_W x 1)).toInt = kg_Un x 1 := by
    rw [kz_most hL5 (kg_W x 1) wb.1 (by omega), e55, kz_p_lay lay5]
    rfl
  have e26 : (S5.1 26 (1 + 1)).toInt = kg_U (kg_Un x) (n - (1 + 1)) (1 + 1) := by
    rw [(d1 26 (by decide)).1]
    exact h.h26 (1 + 1) (by omega) (by omega)
  have ok := kg_isok hL hD n hn
  have b1 := ok.2 1 hk
  have b2 := kg_Ub (kg_Un x) n ok.2 (n - (1 + 1)) (1 + 1) (by omega)
  generalize hv : S5.1 26 (1 + 1) + f_X1_mostMilesOf_17 S5 (f_X1_allLines_17 S5) (kg_W x 1) = v
  have ev : v.toInt = kg_U (kg_Un x) (n - 1) 1 := by
    rw [← hv, kw_addI, e26, em, show n - 1 = (n - (1 + 1)) + 1 by omega]
    show _ = kg_Un x 1 + kg_U (kg_Un x) (n - (1 + 1)) (1 + 1)
    omega
  have F : kw_F [7, 26, 52, 53, 54, 55, 56, 57, 58, 59, 60] x (kw_ui S5 26 1 v) := kw_F_ui (h.fr.tr d1 (by decide)) (by decide)
  have other : ∀ a : Nat, ¬ a = 26 → (kw_ui S5 26 1 v).1 a = S5.1 a := fun a ha => by
    funext j
    rw [kp_ui, if_neg (fun z => ha z.1)]
  refine ⟨F, ?_, ?_, ?_, fun j hj hy => ?_, fun q hy => ?_, fun q hy => ?_, fun q hy => ?_⟩
  · rw [other 7 (by decide), (d1 7 (by decide)).1]; exact h.h6
  · rw [other 7 (by decide), (d1 7 (by decide)).1]; exact h.h7
  · rw [other 7 (by decide), (d1 7 (by decide)).1]; exact h.h5
  · rw [kp_ui]
    by_cases e : j = 1
    · rw [if_pos ⟨rfl, e⟩, e]; exact ev
    · rw [if_neg (fun z => e z.2), (d1 26 (by decide)).1]
      exact h.h26 j hj (by omega)
  · exact absurd hy (by omega)
  · rw [other 53 (by decide)]
    refine ⟨by rw [d2, e5], fun s s0 s1 => ?_⟩
    have u := dm s s0 (by rw [e5]; exact s1)
    have cs := kd_ofNat s s0
    rw [f_X0_milesOf_53_u, f_X0_turnBy_53_u] at u ⊢
    rw [other 57 (by decide), other 58 (by decide), u.1, u.2, lay.miles, lay.turn]
    unfold kg_M kg_T
    rw [cs]
    exact ⟨rfl, rfl⟩
  · have u := h.c2 q (by omega)
    rw [other 54 (by decide), (d1 54 (by decide)).1]
    refine ⟨u.1, fun s s0 s1 => ?_⟩
    have v := u.2 s s0 s1
    rw [f_X0_milesOf_54_u, f_X0_turnBy_54_u] at v ⊢
    rw [other 59 (by decide), other 60 (by decide), (d1 59 (by decide)).1, (d1 60 (by decide)).1]
    exact v
theorem kg_draw2 {x m S : kw_S} (hL : kr_L x m) (hD : kr_D x m) {n : Nat} {lim : Int32} (hn : n ≤ 3) (hk : 2 < n) (h : kg_Ey x n lim 2 S) : kg_Ey x n lim (2 - 1) (kw_ui (f_X0_draw_54_17 S (f_X5_windAhead_4 S 2)) 26 2 ((f_X0_draw_54_17 S (f_X5_windAhead_4 S 2)).1 26 (2 + 1) + f_X1_mostMilesOf_17 (f_X0_draw_54_17 S (f_X5_windAhead_4 S 2)) (f_X1_allLines_17 (f_X0_draw_54_17 S (f_X5_windAhead_4 S 2))) (f_X5_windAhead_4 S 2))) := by
  have l2 := hL.2.1
  have lay : kd_lay x S := kd_lay.of h.fr (by decide)
  have ew : f_X5_windAhead_4 S 2 = kg_W x 2 := by
    rw [f_X5_windAhead_4_u]
    simp only [kf_lx]
    rw [lay.windAt, (h.fr 4 (by decide)).1]
    rfl
  have e5 : S.1 17 5 = x.1 17 5 := by rw [(h.fr 17 (by decide)).1]
  have wb := kg_wind hL hD 2 (by omega)
  rw [ew]
  obtain ⟨d1, d2, -, -⟩ := kc_draw54 S (kg_W x 2) (by rw [e5]; omega) (by rw [e5]; omega)
  have dm := fun s : Int32 => kc_cm54 S (f_X0_draw_54_17 S (kg_W x 2)) (kg_W x 2) s (by rw [e5]; omega) (by rw [e5]; omega) (fun _ _ => rfl)
  generalize f_X0_draw_54_17 S (kg_W x 2) = S5 at *
  have lay5 : kd_lay x S5 := lay.tr (kd_lay.of d1 (by decide))
  have hL5 : kr_L S5 m := hL.cong (fun a ha => lay5 a ha) (fun _ _ => rfl) rfl rfl
  have e55 : S5.1 17 5 = x.1 17 5 := by rw [lay5 17 (by omega)]
  have em : (f_X1_mostMilesOf_17 S5 (f_X1_allLines_17 S5) (kg_W x 2)).toInt = kg_Un x 2 := by
    rw [kz_most hL5 (kg_W x 2) wb.1 (by omega), e55, kz_p_lay lay5]
    rfl
  have e26 : (S5.1 26 (2 + 1)).toInt = kg_U (kg_Un x) (n - (2 + 1)) (2 + 1) := by
    rw [(d1 26 (by decide)).1]
    exact h.h26 (2 + 1) (by omega) (by omega)
  have ok := kg_isok hL hD n hn
  have b1 := ok.2 2 hk
  have b2 := kg_Ub (kg_Un x) n ok.2 (n - (2 + 1)) (2 + 1) (by omega)
  generalize hv : S5.1 26 (2 + 1) + f_X1_mostMilesOf_17 S5 (f_X1_allLines_17 S5) (kg_W x 2) = v
  have ev : v.toInt = kg_U (kg_Un x) (n - 2) 2 := by
    rw [← hv, kw_addI, e26, em, show n - 2 = (n - (2 + 1)) + 1 by omega]
    show _ = kg_Un x 2 + kg_U (kg_Un x) (n - (2 + 1)) (2 + 1)
    omega
  have F : kw_F [7, 26, 52, 53, 54, 55, 56, 57, 58, 59, 60] x (kw_ui S5 26 2 v) := kw_F_ui (h.fr.tr d1 (by decide)) (by decide)
  have other : ∀ a : Nat, ¬ a = 26 → (kw_ui S5 26 2 v).1 a = S5.1 a := fun a ha => by
    funext j
    rw [kp_ui, if_neg (fun z => ha z.1)]
  refine ⟨F, ?_, ?_, ?_, fun j hj hy => ?_, fun q hy => ?_, fun q hy => ?_, fun q hy => ?_⟩
  · rw [other 7 (by decide), (d1 7 (by decide)).1]; exact h.h6
  · rw [other 7 (by decide), (d1 7 (by decide)).1]; exact h.h7
  · rw [other 7 (by decide), (d1 7 (by decide)).1]; exact h.h5
  · rw [kp_ui]
    by_cases e : j = 2
    · rw [if_pos ⟨rfl, e⟩, e]; exact ev
    · rw [if_neg (fun z => e z.2), (d1 26 (by decide)).1]
      exact h.h26 j hj (by omega)
  · exact absurd hy (by omega)
  · exact absurd hy (by omega)
  · rw [other 54 (by decide)]
    refine ⟨by rw [d2, e5], fun s s0 s1 => ?_⟩
    have u := dm s s0 (by rw [e5]; exact s1)
    have cs := kd_ofNat s s0
    rw [f_X0_milesOf_54_u, f_X0_turnBy_54_u] at u ⊢
    rw [other 59 (by decide), other 60 (by decide), u.1, u.2, lay.miles, lay.turn]
    unfold kg_M kg_T
    rw [cs]
    exact ⟨rfl, rfl⟩
theorem kg_find {x m s : kw_S} {r : Int32} (hL : kr_L x m) (hD : kr_D x m) (hb : -7200 ≤ (x.1 4 6).toInt ∧ (x.1 4 6).toInt ≤ 7200) (n t : Int32) (n0 : 0 ≤ n.toInt) (n3 : n.toInt ≤ 3) (t0 : 0 ≤ t.toInt) (e : (r, s) = f_X6_find_7_4 x n t) : kg_Bx n.toNatClampNeg s (kg_S (kg_M x) (kg_T x) t (2 ^ (x.1 17 5).toNatClampNeg) n.toNatClampNeg 0 (x.1 4 6) (x.1 4 7) (fun _ => 0) none) ∧ r = s.1 7 5 ∧ kw_F [7, 24, 26, 27, 52, 53, 54, 55, 56, 57, 58, 59, 60] x s := by
  have l2 := hL.2.1
  have cl := kw_clampI l2.1
  have cn := kw_clampI n0
  have pw := kc_pow (x.1 17 5).toNatClampNeg (by omega)
  have L : ∀ (f : Nat) (y : Int32) (S : kw_S), -1 ≤ y.toInt → y.toInt < n.toInt → (y.toInt + 1).toNat < f → kg_Ey x n.toNatClampNeg t y.toInt S → ∃ S' : kw_S, l_X6_find_7_4_37 n t f y S = ((f_X6_sailFrom_7 3 S' 0 (S'.1 4 6) (S'.1 4 7)).1 7 5, f_X6_sailFrom_7 3 S' 0 (S'.1 4 6) (S'.1 4 7)) ∧ kg_Ey x n.toNatClampNeg t (-1) S' := by
    intro f
    induction f with
    | zero => intro y S _ _ h; exact absurd h (Nat.not_lt_zero _)
    | succ f ih =>
      intro y S y0 y1 hf hE
      rw [l_X6_find_7_4_37_s]
      simp only [kf_lx]
      by_cases hy : y.toInt < 0
      · rw [if_pos hy]
        exact ⟨S, rfl, by rw [show y.toInt = -1 by omega] at hE; exact hE⟩
      · rw [if_neg hy]
        have ed : (y + Int32.ofInt (-1)).toInt = y.toInt - 1 := by rw [kw_addI, show (Int32.ofInt (-1)).toInt = -1 from rfl]; omega
        by_cases h0 : y.toInt = 0
        · have ey : y = 0 := Int32.toInt_inj.mp h0
          subst ey
          rw [if_pos h0]
          exact ih _ _ (by omega) (by omega) (by omega) (by rw [ed]; exact kg_draw0 hL hD (by omega) (by omega) hE)
        · rw [if_neg h0]
          by_cases h1 : y.toInt = 1
          · have ey : y = 1 := Int32.toInt_inj.mp h1
            subst ey
            rw [if_pos h1]
            exact ih _ _ (by omega) (by omega) (by omega) (by rw [ed]; exact kg_draw1 hL hD (by omega) (by omega) hE)
          · rw [if_neg h1]
            have h2 : y.toInt = 2 := by clear hE ih pw; omega
            have ey : y = 2 := Int32.toInt_inj.mp h2
            subst ey
            rw [if_pos h2]
            exact ih _ _ (by omega) (by omega) (by omega) (by rw [ed]; exact kg_draw2 hL hD (by omega) (by omega) hE)
  rw [f_X6_find_7_4_u] at e
  simp only [kf_lx] at e
  have en : (if (3 : Int32) < n then (3 : Int32) else n) = n := by
    rw [if_neg (fun q => absurd (Int32.lt_iff_toInt_lt.mp q) (by rw [show (3 : Int32).toInt = 3 from rfl]; omega))]
  have e1 : (n - 1).toInt = n.toInt - 1 := by rw [kw_subI, kp_q1]; omega
  rw [en] at e
  have E0 : kg_Ey x n.toNatClampNeg t (n - 1).toInt (kw_ui (kw_ui (kw_ui (kw_ui x 7 6 n) 7 7 t) 7 5 0) 26 n.toNatClampNeg 0) := by
    refine ⟨kw_F_ui (kw_F_ui (kw_F_ui (kw_F_ui kw_F.rf (by decide)) (by decide)) (by decide)) (by decide), ?_, ?_, ?_, fun j hj hy => ?_, fun q hy => ?_, fun q hy => ?_, fun q hy => ?_⟩
    · rw [kp_ui, if_neg (by omega), kp_ui, if_neg (by omega), kp_ui, if_neg (by omega), kp_ui, if_pos ⟨rfl, rfl⟩]; omega
    · rw [kp_ui, if_neg (by omega), kp_ui, if_neg (by omega), kp_ui, if_pos ⟨rfl, rfl⟩]
    · rw [kp_ui, if_neg (by omega), kp_ui, if_pos ⟨rfl, rfl⟩]; rfl
    · have ej : j = n.toNatClampNeg := by omega
      rw [kp_ui, if_pos ⟨rfl, ej⟩, ej, Nat.sub_self]; rfl
    · exact absurd hy (by omega)
    · exact absurd hy (by omega)
    · exact absurd hy (by omega)
  obtain ⟨S', a1, a2⟩ := L (((n - 1).toInt + 2).toNat + 1) (n - 1) _ (by omega) (by omega) (by omega) E0
  rw [a1] at e
  obtain ⟨r1, s1⟩ := Prod.mk.inj e
  have f4 := (a2.fr 4 (by decide)).1
  rw [f4] at s1 r1
  have ok := kg_isok hL hD n.toNatClampNeg (by omega)
  obtain ⟨X, F⟩ := kg_sail (T := kg_T x) (lim := t) ok (by omega) pw.1 t0 n.toNatClampNeg 0 3 (by omega) (by omega) S' 0 (x.1 4 6) (x.1 4 7) (fun _ => 0) none rfl ⟨a2.env (by omega), fun j hj => absurd hj (Nat.not_lt_zero _), a2.h5⟩ (fun c q z => by cases z) ⟨by omega, by omega⟩
  rw [← s1] at X F r1
  refine ⟨X.2.2, r1, ?_⟩
  exact ((kw_F.rf (L := [7, 24, 26, 27, 52, 53, 54, 55, 56, 57, 58, 59, 60])).tr a2.fr (by decide)).tr F (by decide)
