/-! ===== far: the search, without states ===== -/
abbrev kg_B := Option (Int32 × (Nat → Int32))
def kg_up (mi : Int32) (p : Nat → Int32) : kg_B → kg_B
  | none => some (mi, p)
  | some (c, q) => if c.toInt < mi.toInt then some (mi, p) else some (c, q)
def kg_loop (g : Nat → kg_B → kg_B) : Nat → Nat → kg_B → kg_B
  | 0, _, b => b
  | c + 1, s, b => kg_loop g c (s + 1) (g s b)
def kg_S (M T : Nat → Nat → Int32) (lim : Int32) (N : Nat) : Nat → Nat → Int32 → Int32 → (Nat → Int32) → kg_B → kg_B
  | 0, _, mi, _, p, b => kg_up mi p b
  | d + 1, k, mi, tu, p, b => kg_loop (fun s b => if -lim.toInt ≤ (tu + T k s).toInt ∧ (tu + T k s).toInt ≤ lim.toInt then kg_S M T lim N d (k + 1) (mi + M k s) (tu + T k s) (upd p k (Int32.ofNat s)) b else b) N 0 b
def kg_g (M T : Nat → Nat → Int32) (lim : Int32) (N d k : Nat) (mi tu : Int32) (p : Nat → Int32) : Nat → kg_B → kg_B := fun s b => if -lim.toInt ≤ (tu + T k s).toInt ∧ (tu + T k s).toInt ≤ lim.toInt then kg_S M T lim N d (k + 1) (mi + M k s) (tu + T k s) (upd p k (Int32.ofNat s)) b else b
theorem kg_SS (M T : Nat → Nat → Int32) (lim : Int32) (N d k : Nat) (mi tu : Int32) (p : Nat → Int32) (b : kg_B) : kg_S M T lim N (d + 1) k mi tu p b = kg_loop (kg_g M T lim N d k mi tu p) N 0 b := rfl
theorem kg_same (g : Nat → kg_B → kg_B) (b : kg_B) (N : Nat) (h : ∀ s : Nat, s < N → g s b = b) : ∀ c s : Nat, s + c ≤ N → kg_loop g c s b = b
  | 0, _, _ => rfl
  | c + 1, s, hs => by
    show kg_loop g c (s + 1) (g s b) = b
    rw [h s (by omega)]
    exact kg_same g b N h c (s + 1) (by omega)
def kg_U (U : Nat → Int) : Nat → Nat → Int
  | 0, _ => 0
  | d + 1, k => U k + kg_U U d (k + 1)
def kg_ok (M : Nat → Nat → Int32) (U : Nat → Int) (N n : Nat) : Prop := (∀ k s : Nat, k < n → s < N → -180 ≤ (M k s).toInt ∧ (M k s).toInt ≤ U k) ∧ ∀ k : Nat, k < n → 0 ≤ U k ∧ U k ≤ 180
def kg_mi (k : Nat) (mi : Int32) : Prop := -7200 - 180 * (k : Int) ≤ mi.toInt ∧ mi.toInt ≤ 7200 + 180 * (k : Int)
theorem kg_add {k : Nat} {mi a : Int32} (h : kg_mi k mi) (hk : k ≤ 3) (a0 : -180 ≤ a.toInt) (a1 : a.toInt ≤ 180) : (mi + a).toInt = mi.toInt + a.toInt ∧ kg_mi (k + 1) (mi + a) := by
  have e : (mi + a).toInt = mi.toInt + a.toInt := by
    have h1 := h.1
    have h2 := h.2
    rw [kw_addI]; omega
  refine ⟨e, ?_⟩
  have h1 := h.1
  have h2 := h.2
  unfold kg_mi
  rw [e]
  omega
theorem kg_Ub (U : Nat → Int) (n : Nat) (h : ∀ k : Nat, k < n → 0 ≤ U k ∧ U k ≤ 180) : ∀ d k : Nat, k + d ≤ n → 0 ≤ kg_U U d k ∧ kg_U U d k ≤ 180 * (d : Int)
  | 0, _, _ => ⟨Int.le_refl _, Int.le_refl _⟩
  | d + 1, k, hk => by
    have a := kg_Ub U n h d (k + 1) (by omega)
    have b := h k (by omega)
    show 0 ≤ U k + kg_U U d (k + 1) ∧ U k + kg_U U d (k + 1) ≤ 180 * ((d + 1 : Nat) : Int)
    omega
theorem kg_prune {M T : Nat → Nat → Int32} {lim : Int32} {N n : Nat} {U : Nat → Int} (hM : kg_ok M U N n) (hn : n ≤ 3) (c : Int32) (q : Nat → Int32) : ∀ (d k : Nat) (mi tu : Int32) (p : Nat → Int32), k + d = n → kg_mi k mi → mi.toInt + kg_U U d k ≤ c.toInt → kg_S M T lim N d k mi tu p (some (c, q)) = some (c, q)
  | 0, k, mi, tu, p, hk, hm, hc => by
    have hc2 : mi.toInt + 0 ≤ c.toInt := hc
    show (if c.toInt < mi.toInt then some (mi, p) else some (c, q)) = some (c, q)
    rw [if_neg (by omega)]
  | d + 1, k, mi, tu, p, hk, hm, hc => by
    have hc2 : mi.toInt + (U k + kg_U U d (k + 1)) ≤ c.toInt := hc
    rw [kg_SS]
    refine kg_same _ _ N (fun s hs => ?_) N 0 (by omega)
    unfold kg_g
    by_cases ht : -lim.toInt ≤ (tu + T k s).toInt ∧ (tu + T k s).toInt ≤ lim.toInt
    · rw [if_pos ht]
      have a := hM.1 k s (by omega) hs
      have u := hM.2 k (by omega)
      obtain ⟨e, hm2⟩ := kg_add hm (by omega) a.1 (by omega)
      exact kg_prune hM hn c q d (k + 1) _ _ _ (by omega) hm2 (by omega)
    · rw [if_neg ht]
/-! ===== the class's search by it ===== -/
def kg_E (M T : Nat → Nat → Int32) (U : Nat → Int) (N n : Nat) (lim : Int32) (S : kw_S) : Prop := ((S.1 7 6).toInt = n) ∧ (S.1 7 7 = lim) ∧ (∀ j : Nat, j ≤ n → (S.1 26 j).toInt = kg_U U (n - j) j) ∧ (0 < n → (S.1 52 3).toInt = N ∧ ∀ s : Int32, 0 ≤ s.toInt → s.toInt < N → f_X0_milesOf_52 S s = M 0 s.toNatClampNeg ∧ f_X0_turnBy_52 S s = T 0 s.toNatClampNeg) ∧ (1 < n → (S.1 53 3).toInt = N ∧ ∀ s : Int32, 0 ≤ s.toInt → s.toInt < N → f_X0_milesOf_53 S s = M 1 s.toNatClampNeg ∧ f_X0_turnBy_53 S s = T 1 s.toNatClampNeg) ∧ (2 < n → (S.1 54 3).toInt = N ∧ ∀ s : Int32, 0 ≤ s.toInt → s.toInt < N → f_X0_milesOf_54 S s = M 2 s.toNatClampNeg ∧ f_X0_turnBy_54 S s = T 2 s.toNatClampNeg)
theorem kg_E.h6 {M T : Nat → Nat → Int32} {U : Nat → Int} {N n : Nat} {lim : Int32} {S : kw_S} (h : kg_E M T U N n lim S) : (S.1 7 6).toInt = n := h.1
theorem kg_E.h7 {M T : Nat → Nat → Int32} {U : Nat → Int} {N n : Nat} {lim : Int32} {S : kw_S} (h : kg_E M T U N n lim S) : S.1 7 7 = lim := h.2.1
theorem kg_E.h26 {M T : Nat → Nat → Int32} {U : Nat → Int} {N n : Nat} {lim : Int32} {S : kw_S} (h : kg_E M T U N n lim S) : ∀ j : Nat, j ≤ n → (S.1 26 j).toInt = kg_U U (n - j) j := h.2.2.1
theorem kg_E.c0 {M T : Nat → Nat → Int32} {U : Nat → Int} {N n : Nat} {lim : Int32} {S : kw_S} (h : kg_E M T U N n lim S) : 0 < n → (S.1 52 3).toInt = N ∧ ∀ s : Int32, 0 ≤ s.toInt → s.toInt < N → f_X0_milesOf_52 S s = M 0 s.toNatClampNeg ∧ f_X0_turnBy_52 S s = T 0 s.toNatClampNeg := h.2.2.2.1
theorem kg_E.c1 {M T : Nat → Nat → Int32} {U : Nat → Int} {N n : Nat} {lim : Int32} {S : kw_S} (h : kg_E M T U N n lim S) : 1 < n → (S.1 53 3).toInt = N ∧ ∀ s : Int32, 0 ≤ s.toInt → s.toInt < N → f_X0_milesOf_53 S s = M 1 s.toNatClampNeg ∧ f_X0_turnBy_53 S s = T 1 s.toNatClampNeg := h.2.2.2.2.1
theorem kg_E.c2 {M T : Nat → Nat → Int32} {U : Nat → Int} {N n : Nat} {lim : Int32} {S : kw_S} (h : kg_E M T U N n lim S) : 2 < n → (S.1 54 3).toInt = N ∧ ∀ s : Int32, 0 ≤ s.toInt → s.toInt < N → f_X0_milesOf_54 S s = M 2 s.toNatClampNeg ∧ f_X0_turnBy_54 S s = T 2 s.toNatClampNeg := h.2.2.2.2.2
theorem kg_E.cong {M T : Nat → Nat → Int32} {U : Nat → Int} {N n : Nat} {lim : Int32} {S S' : kw_S} (h : kg_E M T U N n lim S) (h1 : ∀ a : Nat, a = 26 ∨ 52 ≤ a ∧ a ≤ 60 → S'.1 a = S.1 a) (h6 : S'.1 7 6 = S.1 7 6) (h7 : S'.1 7 7 = S.1 7 7) : kg_E M T U N n lim S' := by
  refine ⟨by rw [h6]; exact h.h6, by rw [h7]; exact h.h7, fun j hj => by rw [h1 26 (by omega)]; exact h.h26 j hj, fun q => ?_, fun q => ?_, fun q => ?_⟩
  · refine ⟨by rw [h1 52 (by omega)]; exact (h.c0 q).1, fun s a b => ?_⟩
    have e := (h.c0 q).2 s a b
    rw [f_X0_milesOf_52_u, f_X0_turnBy_52_u] at e ⊢
    rw [h1 55 (by omega), h1 56 (by omega)]
    exact e
  · refine ⟨by rw [h1 53 (by omega)]; exact (h.c1 q).1, fun s a b => ?_⟩
    have e := (h.c1 q).2 s a b
    rw [f_X0_milesOf_53_u, f_X0_turnBy_53_u] at e ⊢
    rw [h1 57 (by omega), h1 58 (by omega)]
    exact e
  · refine ⟨by rw [h1 54 (by omega)]; exact (h.c2 q).1, fun s a b => ?_⟩
    have e := (h.c2 q).2 s a b
    rw [f_X0_milesOf_54_u, f_X0_turnBy_54_u] at e ⊢
    rw [h1 59 (by omega), h1 60 (by omega)]
    exact e
def kg_Bx (n : Nat) (S : kw_S) : kg_B → Prop
  | none => (S.1 7 5).toInt = 0
  | some (c, q) => ¬ (S.1 7 5).toInt = 0 ∧ S.1 7 1 = c ∧ ∀ j : Nat, j < n → S.1 24 j = q j
def kg_X (M T : Nat → Nat → Int32) (U : Nat → Int) (N n : Nat) (lim : Int32) (k : Nat) (p : Nat → Int32) (b : kg_B) (S : kw_S) : Prop := kg_E M T U N n lim S ∧ (∀ j : Nat, j < k → S.1 27 j = p j) ∧ kg_Bx n S b
def kg_rc (M T : Nat → Nat → Int32) (U : Nat → Int) (N n : Nat) (lim : Int32) (d k : Nat) (rc : kw_S → Int32 → Int32 → Int32 → kw_S) : Prop := ∀ (S : kw_S) (k' mi tu : Int32) (p : Nat → Int32) (b : kg_B), k'.toInt = k → kg_X M T U N n lim k p b S → (∀ c q, b = some (c, q) → c.toInt < mi.toInt + kg_U U d k) → kg_mi k mi → kg_X M T U N n lim k p (kg_S M T lim N d k mi tu p b) (rc S k' mi tu) ∧ kw_F [7, 24, 27] S (rc S k' mi tu)
theorem kg_L0 {M T : Nat → Nat → Int32} {U : Nat → Int} {N n : Nat} {lim : Int32} (hM : kg_ok M U N n) (hn : n ≤ 3) (hN : N ≤ 64) (l0 : 0 ≤ lim.toInt) (d : Nat) (hk : 0 + (d + 1) = n) (rc : kw_S → Int32 → Int32 → Int32 → kw_S) (hrc : kg_rc M T U N n lim d (0 + 1) rc) (k' mi tu : Int32) (ek : k'.toInt = 0) (p : Nat → Int32) (hm : kg_mi 0 mi) : ∀ (f : Nat) (y : Int32) (S : kw_S) (b : kg_B), 0 ≤ y.toInt → y.toInt ≤ N → ((N : Int) - y.toInt).toNat < f → kg_X M T U N n lim 0 p b S → kg_X M T U N n lim 0 p (kg_loop (kg_g M T lim N d 0 mi tu p) (N - y.toNatClampNeg) y.toNatClampNeg b) (l_X6_sailFrom_7_49 rc k' mi tu f y S) ∧ kw_F [7, 24, 27] S (l_X6_sailFrom_7_49 rc k' mi tu f y S) := by
  intro f
  induction f with
  | zero => intro y S b _ _ h; exact absurd h (Nat.not_lt_zero _)
  | succ f ih =>
    intro y S b y0 y1 hf hX
    obtain ⟨hE, hp, hB⟩ := hX
    have cy := kw_clampI y0
    obtain ⟨cN, cM⟩ := hE.c0 (by omega)
    rw [l_X6_sailFrom_7_49_s]
    simp only [kf_lx]
    by_cases hy : y.toInt < (S.1 52 3).toInt
    · have z := kp_inc y (by omega)
      have c1 := kw_clampI (x := y + Int32.ofInt 1) (by omega)
      obtain ⟨m1, m2⟩ := cM y y0 (by omega)
      have eN : N - y.toNatClampNeg = (N - (y + Int32.ofInt 1).toNatClampNeg) + 1 := by omega
      have ey : y.toNatClampNeg + 1 = (y + Int32.ofInt 1).toNatClampNeg := by omega
      rw [if_pos hy, m1, m2, hE.h7, eN]
      show kg_X M T U N n lim 0 p (kg_loop (kg_g M T lim N d 0 mi tu p) (N - (y + Int32.ofInt 1).toNatClampNeg) (y.toNatClampNeg + 1) (kg_g M T lim N d 0 mi tu p y.toNatClampNeg b)) _ ∧ _
      rw [ey]
      have bM := hM.1 0 y.toNatClampNeg (by omega) (by omega)
      have bU := hM.2 0 (by omega)
      obtain ⟨ea, hm2⟩ := kg_add (a := M 0 y.toNatClampNeg) hm (by omega) bM.1 (by omega)
      have e1 : (k' + 1).toInt = ((0 + 1 : Nat) : Int) := by rw [kw_addI, kp_q1, ek]; rfl
      have c2 := kw_clampI (x := k' + 1) (by omega)
      have en1 : (k' + 1).toNatClampNeg = 0 + 1 := by omega
      have ck := kw_clampI (x := k') (by omega)
      have enk : k'.toNatClampNeg = 0 := by omega
      have h26 := hE.h26 (0 + 1) (by omega)
      have eD : n - (0 + 1) = d := by omega
      rw [eD] at h26
      have bD := kg_Ub U n hM.2 d (0 + 1) (by omega)
      have hm2a := hm2.1
      have hm2b := hm2.2
      have e26 : (mi + M 0 y.toNatClampNeg + S.1 26 (0 + 1)).toInt = (mi + M 0 y.toNatClampNeg).toInt + kg_U U d (0 + 1) := by rw [kw_addI, h26]; omega
      have nl : (-lim).toInt = -lim.toInt := by
        have := kw_rng lim
        rw [kw_negI]; omega
      rw [en1, enk, nl]
      have step : ∀ b' : kg_B, kg_Bx n S b' → (∀ c q, b' = some (c, q) → c.toInt < (mi + M 0 y.toNatClampNeg).toInt + kg_U U d (0 + 1)) → kg_X M T U N n lim 0 p (kg_loop (kg_g M T lim N d 0 mi tu p) (N - (y + Int32.ofInt 1).toNatClampNeg) (y + Int32.ofInt 1).toNatClampNeg (kg_g M T lim N d 0 mi tu p y.toNatClampNeg b')) (if lim.toInt < (tu + T 0 y.toNatClampNeg).toInt then l_X6_sailFrom_7_49 rc k' mi tu f (y + Int32.ofInt 1) S else if (tu + T 0 y.toNatClampNeg).toInt < -lim.toInt then l_X6_sailFrom_7_49 rc k' mi tu f (y + Int32.ofInt 1) S else l_X6_sailFrom_7_49 rc k' mi tu f (y + Int32.ofInt 1) (rc (kw_ui S 27 0 y) (k' + 1) (mi + M 0 y.toNatClampNeg) (tu + T 0 y.toNatClampNeg))) ∧ kw_F [7, 24, 27] S (if lim.toInt < (tu + T 0 y.toNatClampNeg).toInt then l_X6_sailFrom_7_49 rc k' mi tu f (y + Int32.ofInt 1) S else if (tu + T 0 y.toNatClampNeg).toInt < -lim.toInt then l_X6_sailFrom_7_49 rc k' mi tu f (y + Int32.ofInt 1) S else l_X6_sailFrom_7_49 rc k' mi tu f (y + Int32.ofInt 1) (rc (kw_ui S 27 0 y) (k' + 1) (mi + M 0 y.toNatClampNeg) (tu + T 0 y.toNatClampNeg))) := by
        intro b' hB' hpre
        by_cases t1 : lim.toInt < (tu + T 0 y.toNatClampNeg).toInt
        · rw [if_pos t1, show kg_g M T lim N d 0 mi tu p y.toNatClampNeg b' = b' from if_neg (by omega)]
          exact ih _ S b' (by omega) (by omega) (by omega) ⟨hE, hp, hB'⟩
        · rw [if_neg t1]
          by_cases t2 : (tu + T 0 y.toNatClampNeg).toInt < -lim.toInt
          · rw [if_pos t2, show kg_g M T lim N d 0 mi tu p y.toNatClampNeg b' = b' from if_neg (by omega)]
            exact ih _ S b' (by omega) (by omega) (by omega) ⟨hE, hp, hB'⟩
          · rw [if_neg t2, show kg_g M T lim N d 0 mi tu p y.toNatClampNeg b' = kg_S M T lim N d (0 + 1) (mi + M 0 y.toNatClampNeg) (tu + T 0 y.toNatClampNeg) (upd p 0 (Int32.ofNat y.toNatClampNeg)) b' from if_pos (by omega), kd_ofNat y y0]
            have F1 : kw_F [7, 24, 27] S (kw_ui S 27 0 y) := kw_F_ui kw_F.rf (by decide)
            have X1 : kg_X M T U N n lim (0 + 1) (upd p 0 y) b' (kw_ui S 27 0 y) := by
              refine ⟨hE.cong (fun a ha => (F1 a (by intro q; simp at q; omega)).1) (by rw [kp_ui, if_neg (by decide)]) (by rw [kp_ui, if_neg (by decide)]), fun j hj => ?_, ?_⟩
              · rw [kp_ui]
                by_cases e : j = 0
                · rw [if_pos ⟨rfl, e⟩, e]; simp [upd]
                · rw [if_neg (fun w => e w.2), hp j (by omega)]; simp [upd, e]
              · rcases b' with _ | ⟨c, q⟩
                · show ((kw_ui S 27 0 y).1 7 5).toInt = 0
                  rw [kp_ui, if_neg (by decide)]; exact hB'
                · refine ⟨?_, ?_, fun j hj => ?_⟩
                  · rw [kp_ui, if_neg (by decide)]; exact hB'.1
                  · rw [kp_ui, if_neg (by decide)]; exact hB'.2.1
                  · rw [kp_ui, if_neg (by omega)]; exact hB'.2.2 j hj
            obtain ⟨X2, F2⟩ := hrc (kw_ui S 27 0 y) (k' + 1) (mi + M 0 y.toNatClampNeg) (tu + T 0 y.toNatClampNeg) (upd p 0 y) b' e1 X1 hpre hm2
            obtain ⟨X3, F3⟩ := ih (y + Int32.ofInt 1) _ _ (by omega) (by omega) (by omega) (show kg_X M T U N n lim 0 p _ _ from ⟨X2.1, fun j hj => (X2.2.1 j (by omega)).trans (by simp [upd, show ¬ j = 0 by omega]), X2.2.2⟩)
            exact ⟨X3, (F1.tr F2 (fun _ h => h)).tr F3 (fun _ h => h)⟩
      rcases b with _ | ⟨c, q⟩
      · rw [if_pos (show (S.1 7 5).toInt = 0 from hB)]
        exact step none hB (fun c q e => by cases e)
      · rw [if_neg hB.1, hB.2.1, e26]
        by_cases pr : c.toInt < (mi + M 0 y.toNatClampNeg).toInt + kg_U U d (0 + 1)
        · rw [if_pos pr]
          exact step (some (c, q)) hB (fun c' q' e => by cases e; exact pr)
        · rw [if_neg pr]
          have es : kg_g M T lim N d 0 mi tu p y.toNatClampNeg (some (c, q)) = some (c, q) := by
            unfold kg_g
            by_cases ht : -lim.toInt ≤ (tu + T 0 y.toNatClampNeg).toInt ∧ (tu + T 0 y.toNatClampNeg).toInt ≤ lim.toInt
            · rw [if_pos ht]
              exact kg_prune hM hn c q d (0 + 1) _ _ _ (by omega) hm2 (by omega)
            · rw [if_neg ht]
          rw [es]
          exact ih _ S (some (c, q)) (by omega) (by omega) (by omega) ⟨hE, hp, hB⟩
    · rw [if_neg hy, show N - y.toNatClampNeg = 0 by omega]
      exact ⟨⟨hE, hp, hB⟩, kw_F.rf⟩
theorem kg_L1 {M T : Nat → Nat → Int32} {U : Nat → Int} {N n : Nat} {lim : Int32} (hM : kg_ok M U N n) (hn : n ≤ 3) (hN : N ≤ 64) (l0 : 0 ≤ lim.toInt) (d : Nat) (hk : 1 + (d + 1) = n) (rc : kw_S → Int32 → Int32 → Int32 → kw_S) (hrc : kg_rc M T U N n lim d (1 + 1) rc) (k' mi tu : Int32) (ek : k'.toInt = 1) (p : Nat → Int32) (hm : kg_mi 1 mi) : ∀ (f : Nat) (y : Int32) (S : kw_S) (b : kg_B), 0 ≤ y.toInt → y.toInt ≤ N → ((N : Int) - y.toInt).toNat < f → kg_X M T U N n lim 1 p b S → kg_X M T U N n lim 1 p (kg_loop (kg_g M T lim N d 1 mi tu p) (N - y.toNatClampNeg) y.toNatClampNeg b) (l_X6_sailFrom_7_49a rc k' mi tu f y S) ∧ kw_F [7, 24, 27] S (l_X6_sailFrom_7_49a rc k' mi tu f y S) := by
  intro f
  induction f with
  | zero => intro y S b _ _ h; exact absurd h (Nat.not_lt_zero _)
  | succ f ih =>
    intro y S b y0 y1 hf hX
    obtain ⟨hE, hp, hB⟩ := hX
    have cy := kw_clampI y0
    obtain ⟨cN, cM⟩ := hE.c1 (by omega)
    rw [l_X6_sailFrom_7_49a_s]
    simp only [kf_lx]
    by_cases hy : y.toInt < (S.1 53 3).toInt
    · have z := kp_inc y (by omega)
      have c1 := kw_clampI (x := y + Int32.ofInt 1) (by omega)
      obtain ⟨m1, m2⟩ := cM y y0 (by omega)
      have eN : N - y.toNatClampNeg = (N - (y + Int32.ofInt 1).toNatClampNeg) + 1 := by omega
      have ey : y.toNatClampNeg + 1 = (y + Int32.ofInt 1).toNatClampNeg := by omega
      rw [if_pos hy, m1, m2, hE.h7, eN]
      show kg_X M T U N n lim 1 p (kg_loop (kg_g M T lim N d 1 mi tu p) (N - (y + Int32.ofInt 1).toNatClampNeg) (y.toNatClampNeg + 1) (kg_g M T lim N d 1 mi tu p y.toNatClampNeg b)) _ ∧ _
      rw [ey]
      have bM := hM.1 1 y.toNatClampNeg (by omega) (by omega)
      have bU := hM.2 1 (by omega)
      obtain ⟨ea, hm2⟩ := kg_add (a := M 1 y.toNatClampNeg) hm (by omega) bM.1 (by omega)
      have e1 : (k' + 1).toInt = ((1 + 1 : Nat) : Int) := by rw [kw_addI, kp_q1, ek]; rfl
      have c2 := kw_clampI (x := k' + 1) (by omega)
      have en1 : (k' + 1).toNatClampNeg = 1 + 1 := by omega
      have ck := kw_clampI (x := k') (by omega)
      have enk : k'.toNatClampNeg = 1 := by omega
      have h26 := hE.h26 (1 + 1) (by omega)
      have eD : n - (1 + 1) = d := by omega
      rw [eD] at h26
      have bD := kg_Ub U n hM.2 d (1 + 1) (by omega)
      have hm2a := hm2.1
      have hm2b := hm2.2
      have e26 : (mi + M 1 y.toNatClampNeg + S.1 26 (1 + 1)).toInt = (mi + M 1 y.toNatClampNeg).toInt + kg_U U d (1 + 1) := by rw [kw_addI, h26]; omega
      have nl : (-lim).toInt = -lim.toInt := by
        have := kw_rng lim
        rw [kw_negI]; omega
      rw [en1, enk, nl]
      have step : ∀ b' : kg_B, kg_Bx n S b' → (∀ c q, b' = some (c, q) → c.toInt < (mi + M 1 y.toNatClampNeg).toInt + kg_U U d (1 + 1)) → kg_X M T U N n lim 1 p (kg_loop (kg_g M T lim N d 1 mi tu p) (N - (y + Int32.ofInt 1).toNatClampNeg) (y + Int32.ofInt 1).toNatClampNeg (kg_g M T lim N d 1 mi tu p y.toNatClampNeg b')) (if lim.toInt < (tu + T 1 y.toNatClampNeg).toInt then l_X6_sailFrom_7_49a rc k' mi tu f (y + Int32.ofInt 1) S else if (tu + T 1 y.toNatClampNeg).toInt < -lim.toInt then l_X6_sailFrom_7_49a rc k' mi tu f (y + Int32.ofInt 1) S else l_X6_sailFrom_7_49a rc k' mi tu f (y + Int32.ofInt 1) (rc (kw_ui S 27 1 y) (k' + 1) (mi + M 1 y.toNatClampNeg) (tu + T 1 y.toNatClampNeg))) ∧ kw_F [7, 24, 27] S (if lim.toInt < (tu + T 1 y.toNatClampNeg).toInt then l_X6_sailFrom_7_49a rc k' mi tu f (y + Int32.ofInt 1) S else if (tu + T 1 y.toNatClampNeg).toInt < -lim.toInt then l_X6_sailFrom_7_49a rc k' mi tu f (y + Int32.ofInt 1) S else l_X6_sailFrom_7_49a rc k' mi tu f (y + Int32.ofInt 1) (rc (kw_ui S 27 1 y) (k' + 1) (mi + M 1 y.toNatClampNeg) (tu + T 1 y.toNatClampNeg))) := by
        intro b' hB' hpre
        by_cases t1 : lim.toInt < (tu + T 1 y.toNatClampNeg).toInt
        · rw [if_pos t1, show kg_g M T lim N d 1 mi tu p y.toNatClampNeg b' = b' from if_neg (by omega)]
          exact ih _ S b' (by omega) (by omega) (by omega) ⟨hE, hp, hB'⟩
        · rw [if_neg t1]
          by_cases t2 : (tu + T 1 y.toNatClampNeg).toInt < -lim.toInt
          · rw [if_pos t2, show kg_g M T lim N d 1 mi tu p y.toNatClampNeg b' = b' from if_neg (by omega)]
            exact ih _ S b' (by omega) (by omega) (by omega) ⟨hE, hp, hB'⟩
          · rw [if_neg t2, show kg_g M T lim N d 1 mi tu p y.toNatClampNeg b' = kg_S M T lim N d (1 + 1) (mi + M 1 y.toNatClampNeg) (tu + T 1 y.toNatClampNeg) (upd p 1 (Int32.ofNat y.toNatClampNeg)) b' from if_pos (by omega), kd_ofNat y y0]
            have F1 : kw_F [7, 24, 27] S (kw_ui S 27 1 y) := kw_F_ui kw_F.rf (by decide)
            have X1 : kg_X M T U N n lim (1 + 1) (upd p 1 y) b' (kw_ui S 27 1 y) := by
              refine ⟨hE.cong (fun a ha => (F1 a (by intro q; simp at q; omega)).1) (by rw [kp_ui, if_neg (by decide)]) (by rw [kp_ui, if_neg (by decide)]), fun j hj => ?_, ?_⟩
              · rw [kp_ui]
                by_cases e : j = 1
                · rw [if_pos ⟨rfl, e⟩, e]; simp [upd]
                · rw [if_neg (fun w => e w.2), hp j (by omega)]; simp [upd, e]
              · rcases b' with _ | ⟨c, q⟩
                · show ((kw_ui S 27 1 y).1 7 5).toInt = 0
                  rw [kp_ui, if_neg (by decide)]; exact hB'
                · refine ⟨?_, ?_, fun j hj => ?_⟩
                  · rw [kp_ui, if_neg (by decide)]; exact hB'.1
                  · rw [kp_ui, if_neg (by decide)]; exact hB'.2.1
                  · rw [kp_ui, if_neg (by omega)]; exact hB'.2.2 j hj
            obtain ⟨X2, F2⟩ := hrc (kw_ui S 27 1 y) (k' + 1) (mi + M 1 y.toNatClampNeg) (tu + T 1 y.toNatClampNeg) (upd p 1 y) b' e1 X1 hpre hm2
            obtain ⟨X3, F3⟩ := ih (y + Int32.ofInt 1) _ _ (by omega) (by omega) (by omega) (show kg_X M T U N n lim 1 p _ _ from ⟨X2.1, fun j hj => (X2.2.1 j (by omega)).trans (by simp [upd, show ¬ j = 1 by omega]), X2.2.2⟩)
            exact ⟨X3, (F1.tr F2 (fun _ h => h)).tr F3 (fun _ h => h)⟩
      rcases b with _ | ⟨c, q⟩
      · rw [if_pos (show (S.1 7 5).toInt = 0 from hB)]
        exact step none hB (fun c q e => by cases e)
      · rw [if_neg hB.1, hB.2.1, e26]
        by_cases pr : c.toInt < (mi + M 1 y.toNatClampNeg).toInt + kg_U U d (1 + 1)
        · rw [if_pos pr]
          exact step (some (c, q)) hB (fun c' q' e => by cases e; exact pr)
        · rw [if_neg pr]
          have es : kg_g M T lim N d 1 mi tu p y.toNatClampNeg (some (c, q)) = some (c, q) := by
            unfold kg_g
            by_cases ht : -lim.toInt ≤ (tu + T 1 y.toNatClampNeg).toInt ∧ (tu + T 1 y.toNatClampNeg).toInt ≤ lim.toInt
            · rw [if_pos ht]
              exact kg_prune hM hn c q d (1 + 1) _ _ _ (by omega) hm2 (by omega)
            · rw [if_neg ht]
          rw [es]
          exact ih _ S (some (c, q)) (by omega) (by omega) (by omega) ⟨hE, hp, hB⟩
    · rw [if_neg hy, show N - y.toNatClampNeg = 0 by omega]
      exact ⟨⟨hE, hp, hB⟩, kw_F.rf⟩
theorem kg_L2 {M T : Nat → Nat → Int32} {U : Nat → Int} {N n : Nat} {lim : Int32} (hM : kg_ok M U N n) (hn : n ≤ 3) (hN : N ≤ 64) (l0 : 0 ≤ lim.toInt) (d : Nat) (hk : 2 + (d + 1) = n) (rc : kw_S → Int32 → Int32 → Int32 → kw_S) (hrc : kg_rc M T U N n lim d (2 + 1) rc) (k' mi tu : Int32) (ek : k'.toInt = 2) (p : Nat → Int32) (hm : kg_mi 2 mi) : ∀ (f : Nat) (y : Int32) (S : kw_S) (b : kg_B), 0 ≤ y.toInt → y.toInt ≤ N → ((N : Int) - y.toInt).toNat < f → kg_X M T U N n lim 2 p b S → kg_X M T U N n lim 2 p (kg_loop (kg_g M T lim N d 2 mi tu p) (N - y.toNatClampNeg) y.toNatClampNeg b) (l_X6_sailFrom_7_49b rc k' mi tu f y S) ∧ kw_F [7, 24, 27] S (l_X6_sailFrom_7_49b rc k' mi tu f y S) := by
  intro f
  induction f with
  | zero => intro y S b _ _ h; exact absurd h (Nat.not_lt_zero _)
  | succ f ih =>
    intro y S b y0 y1 hf hX
    obtain ⟨hE, hp, hB⟩ := hX
    have cy := kw_clampI y0
    obtain ⟨cN, cM⟩ := hE.c2 (by omega)
    rw [l_X6_sailFrom_7_49b_s]
    simp only [kf_lx]
    by_cases hy : y.toInt < (S.1 54 3).toInt
    · have z := kp_inc y (by omega)
      have c1 := kw_clampI (x := y + Int32.ofInt 1) (by omega)
      obtain ⟨m1, m2⟩ := cM y y0 (by omega)
      have eN : N - y.toNatClampNeg = (N - (y + Int32.ofInt 1).toNatClampNeg) + 1 := by omega
      have ey : y.toNatClampNeg + 1 = (y + Int32.ofInt 1).toNatClampNeg := by omega
      rw [if_pos hy, m1, m2, hE.h7, eN]
      show kg_X M T U N n lim 2 p (kg_loop (kg_g M T lim N d 2 mi tu p) (N - (y + Int32.ofInt 1).toNatClampNeg) (y.toNatClampNeg + 1) (kg_g M T lim N d 2 mi tu p y.toNatClampNeg b)) _ ∧ _
      rw [ey]
      have bM := hM.1 2 y.toNatClampNeg (by omega) (by omega)
      have bU := hM.2 2 (by omega)
      obtain ⟨ea, hm2⟩ := kg_add (a := M 2 y.toNatClampNeg) hm (by omega) bM.1 (by omega)
      have e1 : (k' + 1).toInt = ((2 + 1 : Nat) : Int) := by rw [kw_addI, kp_q1, ek]; rfl
      have c2 := kw_clampI (x := k' + 1) (by omega)
      have en1 : (k' + 1).toNatClampNeg = 2 + 1 := by omega
      have ck := kw_clampI (x := k') (by omega)
      have enk : k'.toNatClampNeg = 2 := by omega
      have h26 := hE.h26 (2 + 1) (by omega)
      have eD : n - (2 + 1) = d := by omega
      rw [eD] at h26
      have bD := kg_Ub U n hM.2 d (2 + 1) (by omega)
      have hm2a := hm2.1
      have hm2b := hm2.2
      have e26 : (mi + M 2 y.toNatClampNeg + S.1 26 (2 + 1)).toInt = (mi + M 2 y.toNatClampNeg).toInt + kg_U U d (2 + 1) := by rw [kw_addI, h26]; omega
      have nl : (-lim).toInt = -lim.toInt := by
        have := kw_rng lim
        rw [kw_negI]; omega
      rw [en1, enk, nl]
      have step : ∀ b' : kg_B, kg_Bx n S b' → (∀ c q, b' = some (c, q) → c.toInt < (mi + M 2 y.toNatClampNeg).toInt + kg_U U d (2 + 1)) → kg_X M T U N n lim 2 p (kg_loop (kg_g M T lim N d 2 mi tu p) (N - (y + Int32.ofInt 1).toNatClampNeg) (y + Int32.ofInt 1).toNatClampNeg (kg_g M T lim N d 2 mi tu p y.toNatClampNeg b')) (if lim.toInt < (tu + T 2 y.toNatClampNeg).toInt then l_X6_sailFrom_7_49b rc k' mi tu f (y + Int32.ofInt 1) S else if (tu + T 2 y.toNatClampNeg).toInt < -lim.toInt then l_X6_sailFrom_7_49b rc k' mi tu f (y + Int32.ofInt 1) S else l_X6_sailFrom_7_49b rc k' mi tu f (y + Int32.ofInt 1) (rc (kw_ui S 27 2 y) (k' + 1) (mi + M 2 y.toNatClampNeg) (tu + T 2 y.toNatClampNeg))) ∧ kw_F [7, 24, 27] S (if lim.toInt < (tu + T 2 y.toNatClampNeg).toInt then l_X6_sailFrom_7_49b rc k' mi tu f (y + Int32.ofInt 1) S else if (tu + T 2 y.toNatClampNeg).toInt < -lim.toInt then l_X6_sailFrom_7_49b rc k' mi tu f (y + Int32.ofInt 1) S else l_X6_sailFrom_7_49b rc k' mi tu f (y + Int32.ofInt 1) (rc (kw_ui S 27 2 y) (k' + 1) (mi + M 2 y.toNatClampNeg) (tu + T 2 y.toNatClampNeg))) := by
        intro b' hB' hpre
        by_cases t1 : lim.toInt < (tu + T 2 y.toNatClampNeg).toInt
        · rw [if_pos t1, show kg_g M T lim N d 2 mi tu p y.toNatClampNeg b' = b' from if_neg (by omega)]
          exact ih _ S b' (by omega) (by omega) (by omega) ⟨hE, hp, hB'⟩
        · rw [if_neg t1]
          by_cases t2 : (tu + T 2 y.toNatClampNeg).toInt < -lim.toInt
          · rw [if_pos t2, show kg_g M T lim N d 2 mi tu p y.toNatClampNeg b' = b' from if_neg (by omega)]
            exact ih _ S b' (by omega) (by omega) (by omega) ⟨hE, hp, hB'⟩
          · rw [if_neg t2, show kg_g M T lim N d 2 mi tu p y.toNatClampNeg b' = kg_S M T lim N d (2 + 1) (mi + M 2 y.toNatClampNeg) (tu + T 2 y.toNatClampNeg) (upd p 2 (Int32.ofNat y.toNatClampNeg)) b' from if_pos (by omega), kd_ofNat y y0]
            have F1 : kw_F [7, 24, 27] S (kw_ui S 27 2 y) := kw_F_ui kw_F.rf (by decide)
            have X1 : kg_X M T U N n lim (2 + 1) (upd p 2 y) b' (kw_ui S 27 2 y) := by
              refine ⟨hE.cong (fun a ha => (F1 a (by intro q; simp at q; omega)).1) (by rw [kp_ui, if_neg (by decide)]) (by rw [kp_ui, if_neg (by decide)]), fun j hj => ?_, ?_⟩
              · rw [kp_ui]
                by_cases e : j = 2
                · rw [if_pos ⟨rfl, e⟩, e]; simp [upd]
                · rw [if_neg (fun w => e w.2), hp j (by omega)]; simp [upd, e]
              · rcases b' with _ | ⟨c, q⟩
                · show ((kw_ui S 27 2 y).1 7 5).toInt = 0
                  rw [kp_ui, if_neg (by decide)]; exact hB'
                · refine ⟨?_, ?_, fun j hj => ?_⟩
                  · rw [kp_ui, if_neg (by decide)]; exact hB'.1
                  · rw [kp_ui, if_neg (by decide)]; exact hB'.2.1
                  · rw [kp_ui, if_neg (by omega)]; exact hB'.2.2 j hj
            obtain ⟨X2, F2⟩ := hrc (kw_ui S 27 2 y) (k' + 1) (mi + M 2 y.toNatClampNeg) (tu + T 2 y.toNatClampNeg) (upd p 2 y) b' e1 X1 hpre hm2
            obtain ⟨X3, F3⟩ := ih (y + Int32.ofInt 1) _ _ (by omega) (by omega) (by omega) (show kg_X M T U N n lim 2 p _ _ from ⟨X2.1, fun j hj => (X2.2.1 j (by omega)).trans (by simp [upd, show ¬ j = 2 by omega]), X2.2.2⟩)
            exact ⟨X3, (F1.tr F2 (fun _ h => h)).tr F3 (fun _ h => h)⟩
      rcases b with _ | ⟨c, q⟩
      · rw [if_pos (show (S.1 7 5).toInt = 0 from hB)]
        exact step none hB (fun c q e => by cases e)
      · rw [if_neg hB.1, hB.2.1, e26]
        by_cases pr : c.toInt < (mi + M 2 y.toNatClampNeg).toInt + kg_U U d (2 + 1)
        · rw [if_pos pr]
          exact step (some (c, q)) hB (fun c' q' e => by cases e; exact pr)
        · rw [if_neg pr]
          have es : kg_g M T lim N d 2 mi tu p y.toNatClampNeg (some (c, q)) = some (c, q) := by
            unfold kg_g
            by_cases ht : -lim.toInt ≤ (tu + T 2 y.toNatClampNeg).toInt ∧ (tu + T 2 y.toNatClampNeg).toInt ≤ lim.toInt
            · rw [if_pos ht]
              exact kg_prune hM hn c q d (2 + 1) _ _ _ (by omega) hm2 (by omega)
            · rw [if_neg ht]
          rw [es]
          exact ih _ S (some (c, q)) (by omega) (by omega) (by omega) ⟨hE, hp, hB⟩
    · rw [if_neg hy, show N - y.toNatClampNeg = 0 by omega]
      exact ⟨⟨hE, hp, hB⟩, kw_F.rf⟩
theorem kg_leaf {M T : Nat → Nat → Int32} {U : Nat → Int} {N n : Nat} {lim : Int32} (hn : n ≤ 3) (S : kw_S) (mi tu : Int32) (p : Nat → Int32) (b : kg_B) (hX : kg_X M T U N n lim n p b S) (hpre : ∀ c q, b = some (c, q) → c.toInt < mi.toInt + kg_U U 0 n) : kg_X M T U N n lim n p (kg_S M T lim N 0 n mi tu p b) (kw_ua (kw_ui (kw_ui S 7 5 1) 7 1 mi) 24 (va_cpy ((kw_ui (kw_ui S 7 5 1) 7 1 mi).1 27) ((kw_ui (kw_ui S 7 5 1) 7 1 mi).1 24) ((0 : Int32).toNatClampNeg) ((0 : Int32).toNatClampNeg) ((3 : Int32).toNatClampNeg))) ∧ kw_F [7, 24, 27] S (kw_ua (kw_ui (kw_ui S 7 5 1) 7 1 mi) 24 (va_cpy ((kw_ui (kw_ui S 7 5 1) 7 1 mi).1 27) ((kw_ui (kw_ui S 7 5 1) 7 1 mi).1 24) ((0 : Int32).toNatClampNeg) ((0 : Int32).toNatClampNeg) ((3 : Int32).toNatClampNeg))) := by
  obtain ⟨hE, hp, hB⟩ := hX
  have F : kw_F [7, 24, 27] S (kw_ua (kw_ui (kw_ui S 7 5 1) 7 1 mi) 24 (va_cpy ((kw_ui (kw_ui S 7 5 1) 7 1 mi).1 27) ((kw_ui (kw_ui S 7 5 1) 7 1 mi).1 24) ((0 : Int32).toNatClampNeg) ((0 : Int32).toNatClampNeg) ((3 : Int32).toNatClampNeg))) := kw_F_ua (kw_F_ui (kw_F_ui kw_F.rf (by decide)) (by decide)) (by decide)
  have e : kg_S M T lim N 0 n mi tu p b = some (mi, p) := by
    rcases b with _ | ⟨c, q⟩
    · rfl
    · have h : c.toInt < mi.toInt + 0 := hpre c q rfl
      show (if c.toInt < mi.toInt then some (mi, p) else some (c, q)) = some (mi, p)
      rw [if_pos (by omega)]
  rw [e]
  have p27 : ∀ j : Nat, (kw_ui (kw_ui S 7 5 1) 7 1 mi).1 27 j = S.1 27 j := fun j => by rw [kp_ui, if_neg (by omega), kp_ui, if_neg (by omega)]
  refine ⟨⟨hE.cong (fun a ha => (F a (by intro q; simp at q; omega)).1) ?_ ?_, fun j hj => ?_, ?_, ?_, fun j hj => ?_⟩, F⟩
  · rw [kp_ua, if_neg (by decide), kp_ui, if_neg (by decide), kp_ui, if_neg (by decide)]
  · rw [kp_ua, if_neg (by decide), kp_ui, if_neg (by decide), kp_ui, if_neg (by decide)]
  · rw [kp_ua, if_neg (by decide), p27]; exact hp j hj
  · rw [kp_ua, if_neg (by decide), kp_ui, if_neg (by decide), kp_ui, if_pos ⟨rfl, rfl⟩]; decide
  · rw [kp_ua, if_neg (by decide), kp_ui, if_pos ⟨rfl, rfl⟩]
  · rw [kp_ua, if_pos rfl]
    have a0 : (0 : Int32).toNatClampNeg = 0 := rfl
    have a3 : (3 : Int32).toNatClampNeg = 3 := rfl
    rw [a0, a3]
    show (if 0 ≤ j ∧ j < 0 + 3 then (kw_ui (kw_ui S 7 5 1) 7 1 mi).1 27 (0 + (j - 0)) else _) = p j
    rw [if_pos (by omega), show 0 + (j - 0) = j by omega, p27]
    exact hp j hj
theorem kg_sail {M T : Nat → Nat → Int32} {U : Nat → Int} {N n : Nat} {lim : Int32} (hM : kg_ok M U N n) (hn : n ≤ 3) (hN : N ≤ 64) (l0 : 0 ≤ lim.toInt) : ∀ (d k f : Nat), k + d = n → d ≤ f → kg_rc M T U N n lim d k (f_X6_sailFrom_7 f)
  | 0, k, f, hk, hf => by
    intro S k' mi tu p b ek hX hpre hm
    have h6 := hX.1.h6
    have e : k = n := by omega
    subst e
    cases f with
    | zero =>
      rw [f_X6_sailFrom_7_u0]
      simp only [kf_lx]
      rw [if_neg (show ¬ k'.toInt < (S.1 7 6).toInt by omega)]
      exact kg_leaf hn S mi tu p b hX hpre
    | succ f =>
      rw [f_X6_sailFrom_7_u1]
      simp only [kf_lx]
      rw [if_neg (show ¬ k'.toInt < (S.1 7 6).toInt by omega)]
      exact kg_leaf hn S mi tu p b hX hpre
  | d + 1, k, f, hk, hf => by
    intro S k' mi tu p b ek hX hpre hm
    have h6 := hX.1.h6
    cases f with
    | zero => exact absurd hf (by omega)
    | succ f =>
      have ih := kg_sail (T := T) (lim := lim) hM hn hN l0 d (k + 1) f (by omega) (by omega)
      have q0 : (0 : Int32).toNatClampNeg = 0 := rfl
      rw [f_X6_sailFrom_7_u1, kg_SS]
      rw [if_pos (show k'.toInt < (S.1 7 6).toInt by omega), if_pos (show k'.toInt < (3 : Int32).toInt by rw [show (3 : Int32).toInt = 3 from rfl]; omega)]
      by_cases k0 : k = 0
      · subst k0
        have h := kg_L0 hM hn hN l0 d hk (f_X6_sailFrom_7 f) ih k' mi tu ek p hm (((S.1 52 3).toInt - (0 : Int32).toInt).toNat + 1) 0 S b (by decide) (by rw [kp_q0]; omega) (by rw [(hX.1.c0 (by omega)).1, kp_q0]; omega) hX
        rw [q0] at h
        rw [if_pos (show k'.toInt = 0 from ek)]
        exact h
      · by_cases k1 : k = 1
        · subst k1
          have h := kg_L1 hM hn hN l0 d hk (f_X6_sailFrom_7 f) ih k' mi tu ek p hm (((S.1 53 3).toInt - (0 : Int32).toInt).toNat + 1) 0 S b (by decide) (by rw [kp_q0]; omega) (by rw [(hX.1.c1 (by omega)).1, kp_q0]; omega) hX
          rw [q0] at h
          rw [if_neg (show ¬ k'.toInt = 0 by omega), if_pos (show k'.toInt = 1 from ek)]
          exact h
        · have k2 : k = 2 := by omega
          subst k2
          have h := kg_L2 hM hn hN l0 d hk (f_X6_sailFrom_7 f) ih k' mi tu ek p hm (((S.1 54 3).toInt - (0 : Int32).toInt).toNat + 1) 0 S b (by decide) (by rw [kp_q0]; omega) (by rw [(hX.1.c2 (by omega)).1, kp_q0]; omega) hX
          rw [q0] at h
          rw [if_neg (show ¬ k'.toInt = 0 by omega), if_neg (show ¬ k'.toInt = 1 by omega), if_pos (show k'.toInt = 2 from ek)]
          exact h
