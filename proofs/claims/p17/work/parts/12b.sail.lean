noncomputable def l_X6_sailFrom_7_49 (rc : kw_S → Int32 → Int32 → Int32 → kw_S) (a1 : Int32) (a2 : Int32) (a3 : Int32) : Nat → Int32 → kw_S → kw_S
  | 0, _, S => S
  | n + 1, x5, S => if x5.toInt < (S.1 52 3).toInt then (kf_l (f_X0_milesOf_52 S x5) fun z4 => kf_l (a2 + z4) fun z5 => if (S.1 7 5).toInt = 0 then (kf_l (f_X0_turnBy_52 S x5) fun z6 => kf_l (a3 + z6) fun z7 => if (S.1 7 7).toInt < z7.toInt then (kf_l (x5 + Int32.ofInt 1) fun z8 => l_X6_sailFrom_7_49 rc a1 a2 a3 n z8 S) else (kf_l (-(S.1 7 7)) fun z9 => if z7.toInt < z9.toInt then (kf_l (x5 + Int32.ofInt 1) fun z13 => l_X6_sailFrom_7_49 rc a1 a2 a3 n z13 S) else (kf_l (a1 + (1 : Int32)) fun z10 => kf_l (rc (kw_ui S 27 a1.toNatClampNeg x5) z10 z5 z7) fun S11 => kf_l (x5 + Int32.ofInt 1) fun z12 => l_X6_sailFrom_7_49 rc a1 a2 a3 n z12 S11))) else (kf_l (a1 + (1 : Int32)) fun z14 => kf_l (S.1 26 z14.toNatClampNeg) fun z15 => kf_l (z5 + z15) fun z16 => if (S.1 7 1).toInt < z16.toInt then (kf_l (f_X0_turnBy_52 S x5) fun z17 => kf_l (a3 + z17) fun z18 => if (S.1 7 7).toInt < z18.toInt then (kf_l (x5 + Int32.ofInt 1) fun z19 => l_X6_sailFrom_7_49 rc a1 a2 a3 n z19 S) else (kf_l (-(S.1 7 7)) fun z20 => if z18.toInt < z20.toInt then (kf_l (x5 + Int32.ofInt 1) fun z24 => l_X6_sailFrom_7_49 rc a1 a2 a3 n z24 S) else (kf_l (a1 + (1 : Int32)) fun z21 => kf_l (rc (kw_ui S 27 a1.toNatClampNeg x5) z21 z5 z18) fun S22 => kf_l (x5 + Int32.ofInt 1) fun z23 => l_X6_sailFrom_7_49 rc a1 a2 a3 n z23 S22))) else (kf_l (x5 + Int32.ofInt 1) fun z25 => l_X6_sailFrom_7_49 rc a1 a2 a3 n z25 S))) else (S)
theorem l_X6_sailFrom_7_49_s (rc : kw_S → Int32 → Int32 → Int32 → kw_S) (a1 : Int32) (a2 : Int32) (a3 : Int32) (n : Nat) (x5 : Int32) (S : kw_S) : l_X6_sailFrom_7_49 rc a1 a2 a3 (n + 1) x5 S = if x5.toInt < (S.1 52 3).toInt then (kf_l (f_X0_milesOf_52 S x5) fun z4 => kf_l (a2 + z4) fun z5 => if (S.1 7 5).toInt = 0 then (kf_l (f_X0_turnBy_52 S x5) fun z6 => kf_l (a3 + z6) fun z7 => if (S.1 7 7).toInt < z7.toInt then (kf_l (x5 + Int32.ofInt 1) fun z8 => l_X6_sailFrom_7_49 rc a1 a2 a3 n z8 S) else (kf_l (-(S.1 7 7)) fun z9 => if z7.toInt < z9.toInt then (kf_l (x5 + Int32.ofInt 1) fun z13 => l_X6_sailFrom_7_49 rc a1 a2 a3 n z13 S) else (kf_l (a1 + (1 : Int32)) fun z10 => kf_l (rc (kw_ui S 27 a1.toNatClampNeg x5) z10 z5 z7) fun S11 => kf_l (x5 + Int32.ofInt 1) fun z12 => l_X6_sailFrom_7_49 rc a1 a2 a3 n z12 S11))) else (kf_l (a1 + (1 : Int32)) fun z14 => kf_l (S.1 26 z14.toNatClampNeg) fun z15 => kf_l (z5 + z15) fun z16 => if (S.1 7 1).toInt < z16.toInt then (kf_l (f_X0_turnBy_52 S x5) fun z17 => kf_l (a3 + z17) fun z18 => if (S.1 7 7).toInt < z18.toInt then (kf_l (x5 + Int32.ofInt 1) fun z19 => l_X6_sailFrom_7_49 rc a1 a2 a3 n z19 S) else (kf_l (-(S.1 7 7)) fun z20 => if z18.toInt < z20.toInt then (kf_l (x5 + Int32.ofInt 1) fun z24 => l_X6_sailFrom_7_49 rc a1 a2 a3 n z24 S) else (kf_l (a1 + (1 : Int32)) fun z21 => kf_l (rc (kw_ui S 27 a1.toNatClampNeg x5) z21 z5 z18) fun S22 => kf_l (x5 + Int32.ofInt 1) fun z23 => l_X6_sailFrom_7_49 rc a1 a2 a3 n z23 S22))) else (kf_l (x5 + Int32.ofInt 1) fun z25 => l_X6_sailFrom_7_49 rc a1 a2 a3 n z25 S))) else (S) := rfl
noncomputable def l_X6_sailFrom_7_49a (rc : kw_S → Int32 → Int32 → Int32 → kw_S) (a1 : Int32) (a2 : Int32) (a3 : Int32) : Nat → Int32 → kw_S → kw_S
  | 0, _, S => S
  | n + 1, x5, S => if x5.toInt < (S.1 53 3).toInt then (kf_l (f_X0_milesOf_53 S x5) fun z26 => kf_l (a2 + z26) fun z27 => if (S.1 7 5).toInt = 0 then (kf_l (f_X0_turnBy_53 S x5) fun z28 => kf_l (a3 + z28) fun z29 => if (S.1 7 7).toInt < z29.toInt then (kf_l (x5 + Int32.ofInt 1) fun z30 => l_X6_sailFrom_7_49a rc a1 a2 a3 n z30 S) else (kf_l (-(S.1 7 7)) fun z31 => if z29.toInt < z31.toInt then (kf_l (x5 + Int32.ofInt 1) fun z35 => l_X6_sailFrom_7_49a rc a1 a2 a3 n z35 S) else (kf_l (a1 + (1 : Int32)) fun z32 => kf_l (rc (kw_ui S 27 a1.toNatClampNeg x5) z32 z27 z29) fun S33 => kf_l (x5 + Int32.ofInt 1) fun z34 => l_X6_sailFrom_7_49a rc a1 a2 a3 n z34 S33))) else (kf_l (a1 + (1 : Int32)) fun z36 => kf_l (S.1 26 z36.toNatClampNeg) fun z37 => kf_l (z27 + z37) fun z38 => if (S.1 7 1).toInt < z38.toInt then (kf_l (f_X0_turnBy_53 S x5) fun z39 => kf_l (a3 + z39) fun z40 => if (S.1 7 7).toInt < z40.toInt then (kf_l (x5 + Int32.ofInt 1) fun z41 => l_X6_sailFrom_7_49a rc a1 a2 a3 n z41 S) else (kf_l (-(S.1 7 7)) fun z42 => if z40.toInt < z42.toInt then (kf_l (x5 + Int32.ofInt 1) fun z46 => l_X6_sailFrom_7_49a rc a1 a2 a3 n z46 S) else (kf_l (a1 + (1 : Int32)) fun z43 => kf_l (rc (kw_ui S 27 a1.toNatClampNeg x5) z43 z27 z40) fun S44 => kf_l (x5 + Int32.ofInt 1) fun z45 => l_X6_sailFrom_7_49a rc a1 a2 a3 n z45 S44))) else (kf_l (x5 + Int32.ofInt 1) fun z47 => l_X6_sailFrom_7_49a rc a1 a2 a3 n z47 S))) else (S)
theorem l_X6_sailFrom_7_49a_s (rc : kw_S → Int32 → Int32 → Int32 → kw_S) (a1 : Int32) (a2 : Int32) (a3 : Int32) (n : Nat) (x5 : Int32) (S : kw_S) : l_X6_sailFrom_7_49a rc a1 a2 a3 (n + 1) x5 S = if x5.toInt < (S.1 53 3).toInt then (kf_l (f_X0_milesOf_53 S x5) fun z26 => kf_l (a2 + z26) fun z27 => if (S.1 7 5).toInt = 0 then (kf_l (f_X0_turnBy_53 S x5) fun z28 => kf_l (a3 + z28) fun z29 => if (S.1 7 7).toInt < z29.toInt then (kf_l (x5 + Int32.ofInt 1) fun z30 => l_X6_sailFrom_7_49a rc a1 a2 a3 n z30 S) else (kf_l (-(S.1 7 7)) fun z31 => if z29.toInt < z31.toInt then (kf_l (x5 + Int32.ofInt 1) fun z35 => l_X6_sailFrom_7_49a rc a1 a2 a3 n z35 S) else (kf_l (a1 + (1 : Int32)) fun z32 => kf_l (rc (kw_ui S 27 a1.toNatClampNeg x5) z32 z27 z29) fun S33 => kf_l (x5 + Int32.ofInt 1) fun z34 => l_X6_sailFrom_7_49a rc a1 a2 a3 n z34 S33))) else (kf_l (a1 + (1 : Int32)) fun z36 => kf_l (S.1 26 z36.toNatClampNeg) fun z37 => kf_l (z27 + z37) fun z38 => if (S.1 7 1).toInt < z38.toInt then (kf_l (f_X0_turnBy_53 S x5) fun z39 => kf_l (a3 + z39) fun z40 => if (S.1 7 7).toInt < z40.toInt then (kf_l (x5 + Int32.ofInt 1) fun z41 => l_X6_sailFrom_7_49a rc a1 a2 a3 n z41 S) else (kf_l (-(S.1 7 7)) fun z42 => if z40.toInt < z42.toInt then (kf_l (x5 + Int32.ofInt 1) fun z46 => l_X6_sailFrom_7_49a rc a1 a2 a3 n z46 S) else (kf_l (a1 + (1 : Int32)) fun z43 => kf_l (rc (kw_ui S 27 a1.toNatClampNeg x5) z43 z27 z40) fun S44 => kf_l (x5 + Int32.ofInt 1) fun z45 => l_X6_sailFrom_7_49a rc a1 a2 a3 n z45 S44))) else (kf_l (x5 + Int32.ofInt 1) fun z47 => l_X6_sailFrom_7_49a rc a1 a2 a3 n z47 S))) else (S) := rfl
noncomputable def l_X6_sailFrom_7_49b (rc : kw_S → Int32 → Int32 → Int32 → kw_S) (a1 : Int32) (a2 : Int32) (a3 : Int32) : Nat → Int32 → kw_S → kw_S
  | 0, _, S => S
  | n + 1, x5, S => if x5.toInt < (S.1 54 3).toInt then (kf_l (f_X0_milesOf_54 S x5) fun z48 => kf_l (a2 + z48) fun z49 => if (S.1 7 5).toInt = 0 then (kf_l (f_X0_turnBy_54 S x5) fun z50 => kf_l (a3 + z50) fun z51 => if (S.1 7 7).toInt < z51.toInt then (kf_l (x5 + Int32.ofInt 1) fun z52 => l_X6_sailFrom_7_49b rc a1 a2 a3 n z52 S) else (kf_l (-(S.1 7 7)) fun z53 => if z51.toInt < z53.toInt then (kf_l (x5 + Int32.ofInt 1) fun z57 => l_X6_sailFrom_7_49b rc a1 a2 a3 n z57 S) else (kf_l (a1 + (1 : Int32)) fun z54 => kf_l (rc (kw_ui S 27 a1.toNatClampNeg x5) z54 z49 z51) fun S55 => kf_l (x5 + Int32.ofInt 1) fun z56 => l_X6_sailFrom_7_49b rc a1 a2 a3 n z56 S55))) else (kf_l (a1 + (1 : Int32)) fun z58 => kf_l (S.1 26 z58.toNatClampNeg) fun z59 => kf_l (z49 + z59) fun z60 => if (S.1 7 1).toInt < z60.toInt then (kf_l (f_X0_turnBy_54 S x5) fun z61 => kf_l (a3 + z61) fun z62 => if (S.1 7 7).toInt < z62.toInt then (kf_l (x5 + Int32.ofInt 1) fun z63 => l_X6_sailFrom_7_49b rc a1 a2 a3 n z63 S) else (kf_l (-(S.1 7 7)) fun z64 => if z62.toInt < z64.toInt then (kf_l (x5 + Int32.ofInt 1) fun z68 => l_X6_sailFrom_7_49b rc a1 a2 a3 n z68 S) else (kf_l (a1 + (1 : Int32)) fun z65 => kf_l (rc (kw_ui S 27 a1.toNatClampNeg x5) z65 z49 z62) fun S66 => kf_l (x5 + Int32.ofInt 1) fun z67 => l_X6_sailFrom_7_49b rc a1 a2 a3 n z67 S66))) else (kf_l (x5 + Int32.ofInt 1) fun z69 => l_X6_sailFrom_7_49b rc a1 a2 a3 n z69 S))) else (S)
theorem l_X6_sailFrom_7_49b_s (rc : kw_S → Int32 → Int32 → Int32 → kw_S) (a1 : Int32) (a2 : Int32) (a3 : Int32) (n : Nat) (x5 : Int32) (S : kw_S) : l_X6_sailFrom_7_49b rc a1 a2 a3 (n + 1) x5 S = if x5.toInt < (S.1 54 3).toInt then (kf_l (f_X0_milesOf_54 S x5) fun z48 => kf_l (a2 + z48) fun z49 => if (S.1 7 5).toInt = 0 then (kf_l (f_X0_turnBy_54 S x5) fun z50 => kf_l (a3 + z50) fun z51 => if (S.1 7 7).toInt < z51.toInt then (kf_l (x5 + Int32.ofInt 1) fun z52 => l_X6_sailFrom_7_49b rc a1 a2 a3 n z52 S) else (kf_l (-(S.1 7 7)) fun z53 => if z51.toInt < z53.toInt then (kf_l (x5 + Int32.ofInt 1) fun z57 => l_X6_sailFrom_7_49b rc a1 a2 a3 n z57 S) else (kf_l (a1 + (1 : Int32)) fun z54 => kf_l (rc (kw_ui S 27 a1.toNatClampNeg x5) z54 z49 z51) fun S55 => kf_l (x5 + Int32.ofInt 1) fun z56 => l_X6_sailFrom_7_49b rc a1 a2 a3 n z56 S55))) else (kf_l (a1 + (1 : Int32)) fun z58 => kf_l (S.1 26 z58.toNatClampNeg) fun z59 => kf_l (z49 + z59) fun z60 => if (S.1 7 1).toInt < z60.toInt then (kf_l (f_X0_turnBy_54 S x5) fun z61 => kf_l (a3 + z61) fun z62 => if (S.1 7 7).toInt < z62.toInt then (kf_l (x5 + Int32.ofInt 1) fun z63 => l_X6_sailFrom_7_49b rc a1 a2 a3 n z63 S) else (kf_l (-(S.1 7 7)) fun z64 => if z62.toInt < z64.toInt then (kf_l (x5 + Int32.ofInt 1) fun z68 => l_X6_sailFrom_7_49b rc a1 a2 a3 n z68 S) else (kf_l (a1 + (1 : Int32)) fun z65 => kf_l (rc (kw_ui S 27 a1.toNatClampNeg x5) z65 z49 z62) fun S66 => kf_l (x5 + Int32.ofInt 1) fun z67 => l_X6_sailFrom_7_49b rc a1 a2 a3 n z67 S66))) else (kf_l (x5 + Int32.ofInt 1) fun z69 => l_X6_sailFrom_7_49b rc a1 a2 a3 n z69 S))) else (S) := rfl
noncomputable def f_X6_sailFrom_7 : Nat → kw_S → Int32 → Int32 → Int32 → kw_S
  | 0, σ, k, m, t => if k.toInt < (σ.1 7 6).toInt then (if k.toInt < (3 : Int32).toInt then (σ) else (kf_l (kw_ua (kw_ui (kw_ui σ 7 5 1) 7 1 m) 24 (va_cpy ((kw_ui (kw_ui σ 7 5 1) 7 1 m).1 27) ((kw_ui (kw_ui σ 7 5 1) 7 1 m).1 24) ((0 : Int32).toNatClampNeg) ((0 : Int32).toNatClampNeg) ((3 : Int32).toNatClampNeg))) fun S2 => S2)) else (kf_l (kw_ua (kw_ui (kw_ui σ 7 5 1) 7 1 m) 24 (va_cpy ((kw_ui (kw_ui σ 7 5 1) 7 1 m).1 27) ((kw_ui (kw_ui σ 7 5 1) 7 1 m).1 24) ((0 : Int32).toNatClampNeg) ((0 : Int32).toNatClampNeg) ((3 : Int32).toNatClampNeg))) fun S1 => S1)
  | n + 1, σ, k, m, t => if k.toInt < (σ.1 7 6).toInt then (if k.toInt < (3 : Int32).toInt then (if k.toInt = 0 then (l_X6_sailFrom_7_49 (f_X6_sailFrom_7 n) k m t (((σ.1 52 3).toInt - (0 : Int32).toInt).toNat + 1) (0 : Int32) σ) else if k.toInt = 1 then (l_X6_sailFrom_7_49a (f_X6_sailFrom_7 n) k m t (((σ.1 53 3).toInt - (0 : Int32).toInt).toNat + 1) (0 : Int32) σ) else if k.toInt = 2 then (l_X6_sailFrom_7_49b (f_X6_sailFrom_7 n) k m t (((σ.1 54 3).toInt - (0 : Int32).toInt).toNat + 1) (0 : Int32) σ) else σ) else (kf_l (kw_ua (kw_ui (kw_ui σ 7 5 1) 7 1 m) 24 (va_cpy ((kw_ui (kw_ui σ 7 5 1) 7 1 m).1 27) ((kw_ui (kw_ui σ 7 5 1) 7 1 m).1 24) ((0 : Int32).toNatClampNeg) ((0 : Int32).toNatClampNeg) ((3 : Int32).toNatClampNeg))) fun S70 => S70)) else (kf_l (kw_ua (kw_ui (kw_ui σ 7 5 1) 7 1 m) 24 (va_cpy ((kw_ui (kw_ui σ 7 5 1) 7 1 m).1 27) ((kw_ui (kw_ui σ 7 5 1) 7 1 m).1 24) ((0 : Int32).toNatClampNeg) ((0 : Int32).toNatClampNeg) ((3 : Int32).toNatClampNeg))) fun S3 => S3)
theorem f_X6_sailFrom_7_u0 (σ : kw_S) (k : Int32) (m : Int32) (t : Int32) : f_X6_sailFrom_7 0 σ k m t = if k.toInt < (σ.1 7 6).toInt then (if k.toInt < (3 : Int32).toInt then (σ) else (kf_l (kw_ua (kw_ui (kw_ui σ 7 5 1) 7 1 m) 24 (va_cpy ((kw_ui (kw_ui σ 7 5 1) 7 1 m).1 27) ((kw_ui (kw_ui σ 7 5 1) 7 1 m).1 24) ((0 : Int32).toNatClampNeg) ((0 : Int32).toNatClampNeg) ((3 : Int32).toNatClampNeg))) fun S2 => S2)) else (kf_l (kw_ua (kw_ui (kw_ui σ 7 5 1) 7 1 m) 24 (va_cpy ((kw_ui (kw_ui σ 7 5 1) 7 1 m).1 27) ((kw_ui (kw_ui σ 7 5 1) 7 1 m).1 24) ((0 : Int32).toNatClampNeg) ((0 : Int32).toNatClampNeg) ((3 : Int32).toNatClampNeg))) fun S1 => S1) := rfl
theorem f_X6_sailFrom_7_u1 (n : Nat) (σ : kw_S) (k : Int32) (m : Int32) (t : Int32) : f_X6_sailFrom_7 (n + 1) σ k m t = if k.toInt < (σ.1 7 6).toInt then (if k.toInt < (3 : Int32).toInt then (if k.toInt = 0 then (l_X6_sailFrom_7_49 (f_X6_sailFrom_7 n) k m t (((σ.1 52 3).toInt - (0 : Int32).toInt).toNat + 1) (0 : Int32) σ) else if k.toInt = 1 then (l_X6_sailFrom_7_49a (f_X6_sailFrom_7 n) k m t (((σ.1 53 3).toInt - (0 : Int32).toInt).toNat + 1) (0 : Int32) σ) else if k.toInt = 2 then (l_X6_sailFrom_7_49b (f_X6_sailFrom_7 n) k m t (((σ.1 54 3).toInt - (0 : Int32).toInt).toNat + 1) (0 : Int32) σ) else σ) else (kf_l (kw_ua (kw_ui (kw_ui σ 7 5 1) 7 1 m) 24 (va_cpy ((kw_ui (kw_ui σ 7 5 1) 7 1 m).1 27) ((kw_ui (kw_ui σ 7 5 1) 7 1 m).1 24) ((0 : Int32).toNatClampNeg) ((0 : Int32).toNatClampNeg) ((3 : Int32).toNatClampNeg))) fun S70 => S70)) else (kf_l (kw_ua (kw_ui (kw_ui σ 7 5 1) 7 1 m) 24 (va_cpy ((kw_ui (kw_ui σ 7 5 1) 7 1 m).1 27) ((kw_ui (kw_ui σ 7 5 1) 7 1 m).1 24) ((0 : Int32).toNatClampNeg) ((0 : Int32).toNatClampNeg) ((3 : Int32).toNatClampNeg))) fun S3 => S3) := rfl
abbrev p_X6_sailFrom_7 (n : Nat) (σ : kw_S) (k : Int32) (m : Int32) (t : Int32) : Option Value → kw_S → Prop := fun vv σ' => (kw_I bX σ' ∧ kw_F [7, 24, 27] σ σ') ∧ vv = none ∧ σ' = f_X6_sailFrom_7 n σ k m t
set_option maxRecDepth 100000 in
set_option maxHeartbeats 4000000 in
theorem c_X6_sailFrom_7 (l : Launch) : ∀ (n : Nat) (σ : kw_S) (hI : kw_I bX σ) (k : Int32) (m : Int32) (t : Int32) (hp0 : 0 ≤ k.toInt) (hp1 : 3 ≤ k.toInt + n), kw_Met l (3 + n) KX mX6_sailFrom [.ref 7, .int k, .int m, .int t] σ (p_X6_sailFrom_7 n σ k m t) := by
  intro n
  induction n with
  | zero =>
    intro σ hI k m t hp0 hp1
    have r_k := kw_rng k
    have r_m := kw_rng m
    have r_t := kw_rng t
    have hF0 : kw_F [7, 24, 27] σ σ := kw_F.rf
    have hF := (f_X6_sailFrom_7_u0 σ k m t).symm
    have q_0 : (0 : Int32).toInt = 0 := rfl
    have q_1 : (1 : Int32).toInt = 1 := rfl
    have q_3 : (3 : Int32).toInt = 3 := rfl
    refine kw_Met.of (by decide) rfl tX6_sailFrom (Nat.le_of_ble_eq_true rfl) ?_
    show kw_AW l (3 + 0) kw_E0 KX mX6_sailFrom (p_X6_sailFrom_7 0 σ k m t) 0 [(0, .ref 7), (1, .int k), (2, .int m), (3, .int t)] [] σ
    refine kw_iload_n (pc := 0) (i := 0) (k := 1) (n := 1) rfl rfl rfl ?_
    refine kw_aload_n (pc := 1) (i := 1) (k := 0) (n := 0) rfl rfl rfl ?_
    refine kw_get (pc := 2) (i := 2) (v := .int (σ.1 7 6)) rfl rfl rfl lkX6_34 (fun _ => rfl) ?_
    have b1 : 0 ≤ (σ.1 7 6).toInt ∧ (σ.1 7 6).toInt ≤ 3 := hI 7 6
    refine kw_icmp_ge (pc := 5) (i := 3) (tgt := 13) rfl rfl (fun c2 => ?_) (fun c2 => ?_)
    · replace hF := kf_nl c2 hF
      refine kw_aload_n (pc := 13) (i := 7) (k := 0) (n := 0) rfl rfl rfl ?_
      refine kw_iconst (pc := 14) (i := 8) (v := 1) rfl rfl ?_
      refine kw_puti (pc := 15) (i := 9) (z := 0) rfl rfl rfl lpX6_41 rfl rfl ?_
      have I3 : kw_I bX (kw_ui σ 7 5 1) := kw_I_ui hI (show 0 ≤ (1 : Int32).toInt by omega) (show (1 : Int32).toInt ≤ 1 by omega)
      have F4 : kw_F [7, 24, 27] σ (kw_ui σ 7 5 1) := kw_F_ui hF0 (by decide)
      refine kw_aload_n (pc := 18) (i := 10) (k := 0) (n := 0) rfl rfl rfl ?_
      refine kw_iload_n (pc := 19) (i := 11) (k := 2) (n := 2) rfl rfl rfl ?_
      refine kw_puti (pc := 20) (i := 12) (z := 0) rfl rfl rfl lpX6_78 rfl rfl ?_
      have I5 : kw_I bX (kw_ui (kw_ui σ 7 5 1) 7 1 m) := kw_I_ui I3 (kw_rng m).1 (Int.le_of_lt_add_one (kw_rng m).2)
      have F6 : kw_F [7, 24, 27] σ (kw_ui (kw_ui σ 7 5 1) 7 1 m) := kw_F_ui F4 (by decide)
      refine kw_aload_n (pc := 23) (i := 13) (k := 0) (n := 0) rfl rfl rfl ?_
      refine kw_get (pc := 24) (i := 14) (v := .ref 27) rfl rfl rfl lkX6_24 (fun _ => rfl) ?_
      refine kw_iconst (pc := 27) (i := 15) (v := 0) rfl rfl ?_
      refine kw_aload_n (pc := 28) (i := 16) (k := 0) (n := 0) rfl rfl rfl ?_
      refine kw_get (pc := 29) (i := 17) (v := .ref 24) rfl rfl rfl lkX6_9 (fun _ => rfl) ?_
      refine kw_iconst (pc := 32) (i := 18) (v := 0) rfl rfl ?_
      refine kw_iconst (pc := 33) (i := 19) (v := 3) rfl rfl ?_
      refine kw_copy (pc := 34) (i := 20) (n := 3) (m_ := 3) rfl laX6_81 rfl rfl (by omega) (by omega) (by omega) (by omega) (by omega) (by omega) (Nat.le_of_ble_eq_true rfl) ?_
      have I7 : kw_I bX (kw_ua (kw_ui (kw_ui σ 7 5 1) 7 1 m) 24 (va_cpy ((kw_ui (kw_ui σ 7 5 1) 7 1 m).1 27) ((kw_ui (kw_ui σ 7 5 1) 7 1 m).1 24) ((0 : Int32).toNatClampNeg) ((0 : Int32).toNatClampNeg) ((3 : Int32).toNatClampNeg))) := kw_I_ua I5 (fun j => ⟨(kw_rng _).1, Int.le_of_lt_add_one (kw_rng _).2⟩)
      have F8 : kw_F [7, 24, 27] σ (kw_ua (kw_ui (kw_ui σ 7 5 1) 7 1 m) 24 (va_cpy ((kw_ui (kw_ui σ 7 5 1) 7 1 m).1 27) ((kw_ui (kw_ui σ 7 5 1) 7 1 m).1 24) ((0 : Int32).toNatClampNeg) ((0 : Int32).toNatClampNeg) ((3 : Int32).toNatClampNeg))) := kw_F_ua F6 (by decide)
      generalize hS9 : (kw_ua (kw_ui (kw_ui σ 7 5 1) 7 1 m) 24 (va_cpy ((kw_ui (kw_ui σ 7 5 1) 7 1 m).1 27) ((kw_ui (kw_ui σ 7 5 1) 7 1 m).1 24) ((0 : Int32).toNatClampNeg) ((0 : Int32).toNatClampNeg) ((3 : Int32).toNatClampNeg))) = S9 at I7 F8 ⊢
      replace hF := kf_le hS9.symm hF
      exact kw_return (pc := 37) (i := 21) rfl rfl ⟨⟨I7, F8⟩, rfl, hF⟩
    · replace hF := kf_p c2 hF
      refine kw_iload_n (pc := 8) (i := 4) (k := 1) (n := 1) rfl rfl rfl ?_
      refine kw_iconst (pc := 9) (i := 5) (v := 3) rfl rfl ?_
      refine kw_icmp_lt (pc := 10) (i := 6) (tgt := 38) rfl rfl (fun c10 => ?_) (fun c10 => ?_)
      · exfalso; omega
      · replace hF := kf_nl c10 hF
        refine kw_aload_n (pc := 13) (i := 7) (k := 0) (n := 0) rfl rfl rfl ?_
        refine kw_iconst (pc := 14) (i := 8) (v := 1) rfl rfl ?_
        refine kw_puti (pc := 15) (i := 9) (z := 0) rfl rfl rfl lpX6_41 rfl rfl ?_
        have I11 : kw_I bX (kw_ui σ 7 5 1) := kw_I_ui hI (show 0 ≤ (1 : Int32).toInt by omega) (show (1 : Int32).toInt ≤ 1 by omega)
        have F12 : kw_F [7, 24, 27] σ (kw_ui σ 7 5 1) := kw_F_ui hF0 (by decide)
        refine kw_aload_n (pc := 18) (i := 10) (k := 0) (n := 0) rfl rfl rfl ?_
        refine kw_iload_n (pc := 19) (i := 11) (k := 2) (n := 2) rfl rfl rfl ?_
        refine kw_puti (pc := 20) (i := 12) (z := 0) rfl rfl rfl lpX6_78 rfl rfl ?_
        have I13 : kw_I bX (kw_ui (kw_ui σ 7 5 1) 7 1 m) := kw_I_ui I11 (kw_rng m).1 (Int.le_of_lt_add_one (kw_rng m).2)
        have F14 : kw_F [7, 24, 27] σ (kw_ui (kw_ui σ 7 5 1) 7 1 m) := kw_F_ui F12 (by decide)
        refine kw_aload_n (pc := 23) (i := 13) (k := 0) (n := 0) rfl rfl rfl ?_
        refine kw_get (pc := 24) (i := 14) (v := .ref 27) rfl rfl rfl lkX6_24 (fun _ => rfl) ?_
        refine kw_iconst (pc := 27) (i := 15) (v := 0) rfl rfl ?_
        refine kw_aload_n (pc := 28) (i := 16) (k := 0) (n := 0) rfl rfl rfl ?_
        refine kw_get (pc := 29) (i := 17) (v := .ref 24) rfl rfl rfl lkX6_9 (fun _ => rfl) ?_
        refine kw_iconst (pc := 32) (i := 18) (v := 0) rfl rfl ?_
        refine kw_iconst (pc := 33) (i := 19) (v := 3) rfl rfl ?_
        refine kw_copy (pc := 34) (i := 20) (n := 3) (m_ := 3) rfl laX6_81 rfl rfl (by omega) (by omega) (by omega) (by omega) (by omega) (by omega) (Nat.le_of_ble_eq_true rfl) ?_
        have I15 : kw_I bX (kw_ua (kw_ui (kw_ui σ 7 5 1) 7 1 m) 24 (va_cpy ((kw_ui (kw_ui σ 7 5 1) 7 1 m).1 27) ((kw_ui (kw_ui σ 7 5 1) 7 1 m).1 24) ((0 : Int32).toNatClampNeg) ((0 : Int32).toNatClampNeg) ((3 : Int32).toNatClampNeg))) := kw_I_ua I13 (fun j => ⟨(kw_rng _).1, Int.le_of_lt_add_one (kw_rng _).2⟩)
        have F16 : kw_F [7, 24, 27] σ (kw_ua (kw_ui (kw_ui σ 7 5 1) 7 1 m) 24 (va_cpy ((kw_ui (kw_ui σ 7 5 1) 7 1 m).1 27) ((kw_ui (kw_ui σ 7 5 1) 7 1 m).1 24) ((0 : Int32).toNatClampNeg) ((0 : Int32).toNatClampNeg) ((3 : Int32).toNatClampNeg))) := kw_F_ua F14 (by decide)
        generalize hS17 : (kw_ua (kw_ui (kw_ui σ 7 5 1) 7 1 m) 24 (va_cpy ((kw_ui (kw_ui σ 7 5 1) 7 1 m).1 27) ((kw_ui (kw_ui σ 7 5 1) 7 1 m).1 24) ((0 : Int32).toNatClampNeg) ((0 : Int32).toNatClampNeg) ((3 : Int32).toNatClampNeg))) = S17 at I15 F16 ⊢
        replace hF := kf_le hS17.symm hF
        exact kw_return (pc := 37) (i := 21) rfl rfl ⟨⟨I15, F16⟩, rfl, hF⟩
  | succ n ih =>
    intro σ hI k m t hp0 hp1
    have r_k := kw_rng k
    have r_m := kw_rng m
    have r_t := kw_rng t
    have hF0 : kw_F [7, 24, 27] σ σ := kw_F.rf
    have hF := (f_X6_sailFrom_7_u1 n σ k m t).symm
    have q_0 : (0 : Int32).toInt = 0 := rfl
    have q_1 : (1 : Int32).toInt = 1 := rfl
    have q_3 : (3 : Int32).toInt = 3 := rfl
    refine kw_Met.of (by decide) rfl tX6_sailFrom (Nat.le_of_ble_eq_true rfl) ?_
    show kw_AW l (3 + (n + 1)) kw_E0 KX mX6_sailFrom (p_X6_sailFrom_7 (n + 1) σ k m t) 0 [(0, .ref 7), (1, .int k), (2, .int m), (3, .int t)] [] σ
    refine kw_iload_n (pc := 0) (i := 0) (k := 1) (n := 1) rfl rfl rfl ?_
    refine kw_aload_n (pc := 1) (i := 1) (k := 0) (n := 0) rfl rfl rfl ?_
    refine kw_get (pc := 2) (i := 2) (v := .int (σ.1 7 6)) rfl rfl rfl lkX6_34 (fun _ => rfl) ?_
    have b18 : 0 ≤ (σ.1 7 6).toInt ∧ (σ.1 7 6).toInt ≤ 3 := hI 7 6
    refine kw_icmp_ge (pc := 5) (i := 3) (tgt := 13) rfl rfl (fun c19 => ?_) (fun c19 => ?_)
    · replace hF := kf_nl c19 hF
      refine kw_aload_n (pc := 13) (i := 7) (k := 0) (n := 0) rfl rfl rfl ?_
      refine kw_iconst (pc := 14) (i := 8) (v := 1) rfl rfl ?_
      refine kw_puti (pc := 15) (i := 9) (z := 0) rfl rfl rfl lpX6_41 rfl rfl ?_
      have I20 : kw_I bX (kw_ui σ 7 5 1) := kw_I_ui hI (show 0 ≤ (1 : Int32).toInt by omega) (show (1 : Int32).toInt ≤ 1 by omega)
      have F21 : kw_F [7, 24, 27] σ (kw_ui σ 7 5 1) := kw_F_ui hF0 (by decide)
      refine kw_aload_n (pc := 18) (i := 10) (k := 0) (n := 0) rfl rfl rfl ?_
      refine kw_iload_n (pc := 19) (i := 11) (k := 2) (n := 2) rfl rfl rfl ?_
      refine kw_puti (pc := 20) (i := 12) (z := 0) rfl rfl rfl lpX6_78 rfl rfl ?_
      have I22 : kw_I bX (kw_ui (kw_ui σ 7 5 1) 7 1 m) := kw_I_ui I20 (kw_rng m).1 (Int.le_of_lt_add_one (kw_rng m).2)
      have F23 : kw_F [7, 24, 27] σ (kw_ui (kw_ui σ 7 5 1) 7 1 m) := kw_F_ui F21 (by decide)
      refine kw_aload_n (pc := 23) (i := 13) (k := 0) (n := 0) rfl rfl rfl ?_
      refine kw_get (pc := 24) (i := 14) (v := .ref 27) rfl rfl rfl lkX6_24 (fun _ => rfl) ?_
      refine kw_iconst (pc := 27) (i := 15) (v := 0) rfl rfl ?_
      refine kw_aload_n (pc := 28) (i := 16) (k := 0) (n := 0) rfl rfl rfl ?_
      refine kw_get (pc := 29) (i := 17) (v := .ref 24) rfl rfl rfl lkX6_9 (fun _ => rfl) ?_
      refine kw_iconst (pc := 32) (i := 18) (v := 0) rfl rfl ?_
      refine kw_iconst (pc := 33) (i := 19) (v := 3) rfl rfl ?_
      refine kw_copy (pc := 34) (i := 20) (n := 3) (m_ := 3) rfl laX6_81 rfl rfl (by omega) (by omega) (by omega) (by omega) (by omega) (by omega) (Nat.le_of_ble_eq_true rfl) ?_
      have I24 : kw_I bX (kw_ua (kw_ui (kw_ui σ 7 5 1) 7 1 m) 24 (va_cpy ((kw_ui (kw_ui σ 7 5 1) 7 1 m).1 27) ((kw_ui (kw_ui σ 7 5 1) 7 1 m).1 24) ((0 : Int32).toNatClampNeg) ((0 : Int32).toNatClampNeg) ((3 : Int32).toNatClampNeg))) := kw_I_ua I22 (fun j => ⟨(kw_rng _).1, Int.le_of_lt_add_one (kw_rng _).2⟩)
      have F25 : kw_F [7, 24, 27] σ (kw_ua (kw_ui (kw_ui σ 7 5 1) 7 1 m) 24 (va_cpy ((kw_ui (kw_ui σ 7 5 1) 7 1 m).1 27) ((kw_ui (kw_ui σ 7 5 1) 7 1 m).1 24) ((0 : Int32).toNatClampNeg) ((0 : Int32).toNatClampNeg) ((3 : Int32).toNatClampNeg))) := kw_F_ua F23 (by decide)
      generalize hS26 : (kw_ua (kw_ui (kw_ui σ 7 5 1) 7 1 m) 24 (va_cpy ((kw_ui (kw_ui σ 7 5 1) 7 1 m).1 27) ((kw_ui (kw_ui σ 7 5 1) 7 1 m).1 24) ((0 : Int32).toNatClampNeg) ((0 : Int32).toNatClampNeg) ((3 : Int32).toNatClampNeg))) = S26 at I24 F25 ⊢
      replace hF := kf_le hS26.symm hF
      exact kw_return (pc := 37) (i := 21) rfl rfl ⟨⟨I24, F25⟩, rfl, hF⟩
    · replace hF := kf_p c19 hF
      refine kw_iload_n (pc := 8) (i := 4) (k := 1) (n := 1) rfl rfl rfl ?_
      refine kw_iconst (pc := 9) (i := 5) (v := 3) rfl rfl ?_
      refine kw_icmp_lt (pc := 10) (i := 6) (tgt := 38) rfl rfl (fun c27 => ?_) (fun c27 => ?_)
      · replace hF := kf_p c27 hF
        refine kw_aload_n (pc := 38) (i := 22) (k := 0) (n := 0) rfl rfl rfl ?_
        refine kw_get (pc := 39) (i := 23) (v := .ref 25) rfl rfl rfl lkX6_17 (fun _ => rfl) ?_
        refine kw_iload_n (pc := 42) (i := 24) (k := 1) (n := 1) rfl rfl rfl ?_
        have w28 : k.toInt = 0 ∨ k.toInt = 1 ∨ k.toInt = 2 := by omega
        rcases w28 with w28 | w28 | w28
        · replace hF := kf_p w28 hF
          have e_w28 : k.toNatClampNeg = 0 := by have := kw_clampI (x := k) (by omega); omega
          refine kw_aald (pc := 43) (i := 25) (b := 52) rfl rfl (by decide) (by omega) (by rw [e_w28]; rfl) ?_
          refine kw_astore (pc := 44) (i := 26) (n := 4) (lv' := [(4, .ref 52), (0, .ref 7), (1, .int k), (2, .int m), (3, .int t)]) rfl (by decide) rfl ?_
          refine kw_iconst (pc := 46) (i := 27) (v := 0) rfl rfl ?_
          refine kw_istore (pc := 47) (i := 28) (n := 5) (lv' := [(5, .int 0), (4, .ref 52), (0, .ref 7), (1, .int k), (2, .int m), (3, .int t)]) rfl (by decide) rfl ?_
          have L33 : ∀ (n37 : Nat) (x29 : Int32) (S30 : kw_S), kw_I bX S30 → kw_F [7, 24, 27] σ S30 → 0 ≤ x29.toInt → l_X6_sailFrom_7_49 (f_X6_sailFrom_7 n) k m t n37 x29 S30 = (f_X6_sailFrom_7 (n + 1) σ k m t) → ((σ.1 52 3).toInt - x29.toInt).toNat < n37 → kw_AW l (3 + (n + 1)) kw_E0 KX mX6_sailFrom (p_X6_sailFrom_7 (n + 1) σ k m t) 49 [(5, .int x29), (4, .ref 52), (0, .ref 7), (1, .int k), (2, .int m), (3, .int t)] [] S30 := by
            intro n37
            induction n37 with
            | zero => intro x29 S30 I31 F32 v35 hF m36; exact absurd m36 (Nat.not_lt_zero _)
            | succ n37 ih34 =>
              intro x29 S30 I31 F32 v35 hF m36
              replace hF := kf_st (l_X6_sailFrom_7_49_s _ _ _ _ _ _ _) hF
              have r_x29 := kw_rng x29
              have w_f := congrArg Int32.toInt (kw_F.at (a := 52) (j := 3) F32 (by decide))
              refine kw_iload (pc := 49) (i := 29) (k := 0) (n := 5) rfl rfl ?_
              refine kw_aload (pc := 51) (i := 30) (k := 1) (n := 4) rfl rfl ?_
              refine kw_get (pc := 53) (i := 31) (v := .int (S30.1 52 3)) rfl rfl rfl lkX6_87 (fun _ => rfl) ?_
              have b38 := kw_rng (S30.1 52 3)
              refine kw_icmp_ge (pc := 56) (i := 32) (tgt := 156) rfl rfl (fun c39 => ?_) (fun c39 => ?_)
              · replace hF := kf_nl c39 hF
                exact kw_return (pc := 156) (i := 84) rfl rfl ⟨⟨I31, F32⟩, rfl, hF⟩
              · replace hF := kf_p c39 hF
                refine kw_iload_n (pc := 59) (i := 33) (k := 4) (n := 2) rfl rfl rfl ?_
                refine kw_aload (pc := 60) (i := 34) (k := 1) (n := 4) rfl rfl ?_
                refine kw_iload (pc := 62) (i := 35) (k := 0) (n := 5) rfl rfl ?_
                refine kw_callV (pc := 64) (i := 36) (Y := mX0_milesOf) (a := 52) (As := [.int x29]) (st := [.int m]) kw_hE rfl rfl lvX6_90 arX0_milesOf (c_X0_milesOf_52 l S30 I31 x29 ) (by omega) (Nat.le_of_ble_eq_true rfl) rfl (fun v S41 p40 => ?_)
                obtain ⟨e44, z43, rfl, ef42⟩ := p40
                rw [e44]
                replace hF := kf_le ef42 hF
                have r_z43 := kw_rng z43
                show kw_AW l (3 + (n + 1)) kw_E0 KX mX6_sailFrom (p_X6_sailFrom_7 (n + 1) σ k m t) 67 [(5, .int x29), (4, .ref 52), (0, .ref 7), (1, .int k), (2, .int m), (3, .int t)] [.int z43, .int m] S30
                refine kw_iadd (pc := 67) (i := 37) rfl (fun z45 e_z45 t_z45 => ?_)
                replace hF := kf_le e_z45 hF
                refine kw_istore (pc := 68) (i := 38) (n := 6) (lv' := [(6, .int z45), (5, .int x29), (4, .ref 52), (0, .ref 7), (1, .int k), (2, .int m), (3, .int t)]) rfl (by decide) rfl ?_
                refine kw_aload_n (pc := 70) (i := 39) (k := 3) (n := 0) rfl rfl rfl ?_
                refine kw_get (pc := 71) (i := 40) (v := .int (S30.1 7 5)) rfl rfl rfl lkX6_41 (fun _ => rfl) ?_
                have b46 : 0 ≤ (S30.1 7 5).toInt ∧ (S30.1 7 5).toInt ≤ 1 := I31 7 5
                refine kw_if_eq (pc := 74) (i := 41) (tgt := 98) rfl rfl (fun c47 => ?_) (fun c47 => ?_)
                · replace hF := kf_p c47 hF
                  refine kw_iload_n (pc := 98) (i := 54) (k := 6) (n := 3) rfl rfl rfl ?_
                  refine kw_aload (pc := 99) (i := 55) (k := 2) (n := 4) rfl rfl ?_
                  refine kw_iload (pc := 101) (i := 56) (k := 1) (n := 5) rfl rfl ?_
                  refine kw_callV (pc := 103) (i := 57) (Y := mX0_turnBy) (a := 52) (As := [.int x29]) (st := [.int t]) kw_hE rfl rfl lvX6_93 arX0_turnBy (c_X0_turnBy_52 l S30 I31 x29 ) (by omega) (Nat.le_of_ble_eq_true rfl) rfl (fun v S49 p48 => ?_)
                  obtain ⟨e52, z51, rfl, ef50⟩ := p48
                  rw [e52]
                  replace hF := kf_le ef50 hF
                  have r_z51 := kw_rng z51
                  show kw_AW l (3 + (n + 1)) kw_E0 KX mX6_sailFrom (p_X6_sailFrom_7 (n + 1) σ k m t) 106 [(6, .int z45), (5, .int x29), (4, .ref 52), (0, .ref 7), (1, .int k), (2, .int m), (3, .int t)] [.int z51, .int t] S30
                  refine kw_iadd (pc := 106) (i := 58) rfl (fun z53 e_z53 t_z53 => ?_)
                  replace hF := kf_le e_z53 hF
                  refine kw_istore (pc := 107) (i := 59) (n := 7) (lv' := [(7, .int z53), (6, .int z45), (5, .int x29), (4, .ref 52), (0, .ref 7), (1, .int k), (2, .int m), (3, .int t)]) rfl (by decide) rfl ?_
                  refine kw_iload (pc := 109) (i := 60) (k := 0) (n := 7) rfl rfl ?_
                  refine kw_aload_n (pc := 111) (i := 61) (k := 4) (n := 0) rfl rfl rfl ?_
                  refine kw_get (pc := 112) (i := 62) (v := .int (S30.1 7 7)) rfl rfl rfl lkX6_38 (fun _ => rfl) ?_
                  have b54 := kw_rng (S30.1 7 7)
                  refine kw_icmp_gt (pc := 115) (i := 63) (tgt := 150) rfl rfl (fun c55 => ?_) (fun c55 => ?_)
                  · replace hF := kf_p c55 hF
                    refine kw_iinc' (pc := 150) (i := 82) (k := 2) (fun z => [(5, .int z), (7, .int z53), (6, .int z45), (4, .ref 52), (0, .ref 7), (1, .int k), (2, .int m), (3, .int t)]) rfl rfl (by decide) rfl (fun _ => rfl) (fun z56 e_z56 t_z56 => ?_)
                    replace hF := kf_le e_z56 hF
                    refine kw_goto (pc := 153) (i := 83) (tgt := 49) rfl rfl ?_
                    refine kw_sub (lv' := [(5, .int z56), (4, .ref 52), (0, .ref 7), (1, .int k), (2, .int m), (3, .int t)]) [0, 3, 4, 5, 6, 7] rfl ?_
                    exact ih34 z56 S30 I31 F32 (by omega) hF (by omega)
                  · replace hF := kf_nl c55 hF
                    refine kw_iload (pc := 118) (i := 64) (k := 0) (n := 7) rfl rfl ?_
                    refine kw_aload_n (pc := 120) (i := 65) (k := 4) (n := 0) rfl rfl rfl ?_
                    refine kw_get (pc := 121) (i := 66) (v := .int (S30.1 7 7)) rfl rfl rfl lkX6_38 (fun _ => rfl) ?_
                    refine kw_ineg (pc := 124) (i := 67) rfl (fun z57 e_z57 t_z57 => ?_)
                    replace hF := kf_le e_z57 hF
                    refine kw_icmp_ge (pc := 125) (i := 68) (tgt := 131) rfl rfl (fun c58 => ?_) (fun c58 => ?_)
                    · replace hF := kf_nl c58 hF
                      refine kw_aload_n (pc := 131) (i := 70) (k := 4) (n := 0) rfl rfl rfl ?_
                      refine kw_get (pc := 132) (i := 71) (v := .ref 27) rfl rfl rfl lkX6_24 (fun _ => rfl) ?_
                      refine kw_iload_n (pc := 135) (i := 72) (k := 5) (n := 1) rfl rfl rfl ?_
                      refine kw_iload (pc := 136) (i := 73) (k := 2) (n := 5) rfl rfl ?_
                      refine kw_iast (pc := 138) (i := 74) (n := 3) rfl rfl (by omega) (by omega) ?_
                      have I59 : kw_I bX (kw_ui S30 27 k.toNatClampNeg x29) := kw_I_ui I31 (kw_rng x29).1 (Int.le_of_lt_add_one (kw_rng x29).2)
                      have F60 : kw_F [7, 24, 27] σ (kw_ui S30 27 k.toNatClampNeg x29) := kw_F_ui F32 (by decide)
                      refine kw_aload_n (pc := 139) (i := 75) (k := 4) (n := 0) rfl rfl rfl ?_
                      refine kw_iload_n (pc := 140) (i := 76) (k := 5) (n := 1) rfl rfl rfl ?_
                      refine kw_iconst (pc := 141) (i := 77) (v := 1) rfl rfl ?_
                      refine kw_iadd (pc := 142) (i := 78) rfl (fun z61 e_z61 t_z61 => ?_)
                      replace hF := kf_le e_z61 hF
                      refine kw_iload (pc := 143) (i := 79) (k := 1) (n := 6) rfl rfl ?_
                      refine kw_iload (pc := 145) (i := 80) (k := 0) (n := 7) rfl rfl ?_
                      refine kw_callV (pc := 147) (i := 81) (Y := mX6_sailFrom) (a := 7) (As := [.int z61, .int z45, .int z53]) (st := []) kw_hE rfl rfl lvX6_74 arX6_sailFrom (ih (kw_ui S30 27 k.toNatClampNeg x29) I59 z61 z45 z53 (by first | omega | decide) (by first | omega | decide)) (by omega) (Nat.le_of_ble_eq_true rfl) rfl (fun v S63 p62 => ?_)
                      obtain ⟨⟨I65, F66⟩, rfl, ef64⟩ := p62
                      have F67 : kw_F [7, 24, 27] σ S63 := kw_F.tr F60 F66 (by decide)
                      replace hF := kf_le ef64 hF
                      show kw_AW l (3 + (n + 1)) kw_E0 KX mX6_sailFrom (p_X6_sailFrom_7 (n + 1) σ k m t) 150 [(7, .int z53), (6, .int z45), (5, .int x29), (4, .ref 52), (0, .ref 7), (1, .int k), (2, .int m), (3, .int t)] [] S63
                      refine kw_iinc' (pc := 150) (i := 82) (k := 2) (fun z => [(5, .int z), (7, .int z53), (6, .int z45), (4, .ref 52), (0, .ref 7), (1, .int k), (2, .int m), (3, .int t)]) rfl rfl (by decide) rfl (fun _ => rfl) (fun z68 e_z68 t_z68 => ?_)
                      replace hF := kf_le e_z68 hF
                      refine kw_goto (pc := 153) (i := 83) (tgt := 49) rfl rfl ?_
                      refine kw_sub (lv' := [(5, .int z68), (4, .ref 52), (0, .ref 7), (1, .int k), (2, .int m), (3, .int t)]) [0, 3, 4, 5, 6, 7] rfl ?_
                      exact ih34 z68 S63 I65 F67 (by omega) hF (by omega)
                    · replace hF := kf_p c58 hF
                      refine kw_goto (pc := 128) (i := 69) (tgt := 150) rfl rfl ?_
                      refine kw_iinc' (pc := 150) (i := 82) (k := 2) (fun z => [(5, .int z), (7, .int z53), (6, .int z45), (4, .ref 52), (0, .ref 7), (1, .int k), (2, .int m), (3, .int t)]) rfl rfl (by decide) rfl (fun _ => rfl) (fun z69 e_z69 t_z69 => ?_)
                      replace hF := kf_le e_z69 hF
                      refine kw_goto (pc := 153) (i := 83) (tgt := 49) rfl rfl ?_
                      refine kw_sub (lv' := [(5, .int z69), (4, .ref 52), (0, .ref 7), (1, .int k), (2, .int m), (3, .int t)]) [0, 3, 4, 5, 6, 7] rfl ?_
                      exact ih34 z69 S30 I31 F32 (by omega) hF (by omega)
                · replace hF := kf_n c47 hF
                  refine kw_iload (pc := 77) (i := 42) (k := 0) (n := 6) rfl rfl ?_
                  refine kw_aload_n (pc := 79) (i := 43) (k := 3) (n := 0) rfl rfl rfl ?_
                  refine kw_get (pc := 80) (i := 44) (v := .ref 26) rfl rfl rfl lkX6_21 (fun _ => rfl) ?_
                  refine kw_iload_n (pc := 83) (i := 45) (k := 4) (n := 1) rfl rfl rfl ?_
                  refine kw_iconst (pc := 84) (i := 46) (v := 1) rfl rfl ?_
                  refine kw_iadd (pc := 85) (i := 47) rfl (fun z70 e_z70 t_z70 => ?_)
                  replace hF := kf_le e_z70 hF
                  refine kw_iald (pc := 86) (i := 48) (n := 4) rfl rfl (by omega) (by omega) (fun z71 e_z71 => ?_)
                  replace hF := kf_le e_z71 hF
                  have t_z71 := congrArg Int32.toInt e_z71
                  have r_z71 := kw_rng z71
                  refine kw_iadd (pc := 87) (i := 49) rfl (fun z72 e_z72 t_z72 => ?_)
                  replace hF := kf_le e_z72 hF
                  refine kw_aload_n (pc := 88) (i := 50) (k := 3) (n := 0) rfl rfl rfl ?_
                  refine kw_get (pc := 89) (i := 51) (v := .int (S30.1 7 1)) rfl rfl rfl lkX6_78 (fun _ => rfl) ?_
                  have b73 := kw_rng (S30.1 7 1)
                  refine kw_icmp_gt (pc := 92) (i := 52) (tgt := 98) rfl rfl (fun c74 => ?_) (fun c74 => ?_)
                  · replace hF := kf_p c74 hF
                    refine kw_iload_n (pc := 98) (i := 54) (k := 6) (n := 3) rfl rfl rfl ?_
                    refine kw_aload (pc := 99) (i := 55) (k := 2) (n := 4) rfl rfl ?_
                    refine kw_iload (pc := 101) (i := 56) (k := 1) (n := 5) rfl rfl ?_
                    refine kw_callV (pc := 103) (i := 57) (Y := mX0_turnBy) (a := 52) (As := [.int x29]) (st := [.int t]) kw_hE rfl rfl lvX6_93 arX0_turnBy (c_X0_turnBy_52 l S30 I31 x29 ) (by omega) (Nat.le_of_ble_eq_true rfl) rfl (fun v S76 p75 => ?_)
                    obtain ⟨e79, z78, rfl, ef77⟩ := p75
                    rw [e79]
                    replace hF := kf_le ef77 hF
                    have r_z78 := kw_rng z78
                    show kw_AW l (3 + (n + 1)) kw_E0 KX mX6_sailFrom (p_X6_sailFrom_7 (n + 1) σ k m t) 106 [(6, .int z45), (5, .int x29), (4, .ref 52), (0, .ref 7), (1, .int k), (2, .int m), (3, .int t)] [.int z78, .int t] S30
                    refine kw_iadd (pc := 106) (i := 58) rfl (fun z80 e_z80 t_z80 => ?_)
                    replace hF := kf_le e_z80 hF
                    refine kw_istore (pc := 107) (i := 59) (n := 7) (lv' := [(7, .int z80), (6, .int z45), (5, .int x29), (4, .ref 52), (0, .ref 7), (1, .int k), (2, .int m), (3, .int t)]) rfl (by decide) rfl ?_
                    refine kw_iload (pc := 109) (i := 60) (k := 0) (n := 7) rfl rfl ?_
                    refine kw_aload_n (pc := 111) (i := 61) (k := 4) (n := 0) rfl rfl rfl ?_
                    refine kw_get (pc := 112) (i := 62) (v := .int (S30.1 7 7)) rfl rfl rfl lkX6_38 (fun _ => rfl) ?_
                    have b81 := kw_rng (S30.1 7 7)
                    refine kw_icmp_gt (pc := 115) (i := 63) (tgt := 150) rfl rfl (fun c82 => ?_) (fun c82 => ?_)
                    · replace hF := kf_p c82 hF
                      refine kw_iinc' (pc := 150) (i := 82) (k := 2) (fun z => [(5, .int z), (7, .int z80), (6, .int z45), (4, .ref 52), (0, .ref 7), (1, .int k), (2, .int m), (3, .int t)]) rfl rfl (by decide) rfl (fun _ => rfl) (fun z83 e_z83 t_z83 => ?_)
                      replace hF := kf_le e_z83 hF
                      refine kw_goto (pc := 153) (i := 83) (tgt := 49) rfl rfl ?_
                      refine kw_sub (lv' := [(5, .int z83), (4, .ref 52), (0, .ref 7), (1, .int k), (2, .int m), (3, .int t)]) [0, 3, 4, 5, 6, 7] rfl ?_
                      exact ih34 z83 S30 I31 F32 (by omega) hF (by omega)
                    · replace hF := kf_nl c82 hF
                      refine kw_iload (pc := 118) (i := 64) (k := 0) (n := 7) rfl rfl ?_
                      refine kw_aload_n (pc := 120) (i := 65) (k := 4) (n := 0) rfl rfl rfl ?_
                      refine kw_get (pc := 121) (i := 66) (v := .int (S30.1 7 7)) rfl rfl rfl lkX6_38 (fun _ => rfl) ?_
                      refine kw_ineg (pc := 124) (i := 67) rfl (fun z84 e_z84 t_z84 => ?_)
                      replace hF := kf_le e_z84 hF
                      refine kw_icmp_ge (pc := 125) (i := 68) (tgt := 131) rfl rfl (fun c85 => ?_) (fun c85 => ?_)
                      · replace hF := kf_nl c85 hF
                        refine kw_aload_n (pc := 131) (i := 70) (k := 4) (n := 0) rfl rfl rfl ?_
                        refine kw_get (pc := 132) (i := 71) (v := .ref 27) rfl rfl rfl lkX6_24 (fun _ => rfl) ?_
                        refine kw_iload_n (pc := 135) (i := 72) (k := 5) (n := 1) rfl rfl rfl ?_
                        refine kw_iload (pc := 136) (i := 73) (k := 2) (n := 5) rfl rfl ?_
                        refine kw_iast (pc := 138) (i := 74) (n := 3) rfl rfl (by omega) (by omega) ?_
                        have I86 : kw_I bX (kw_ui S30 27 k.toNatClampNeg x29) := kw_I_ui I31 (kw_rng x29).1 (Int.le_of_lt_add_one (kw_rng x29).2)
                        have F87 : kw_F [7, 24, 27] σ (kw_ui S30 27 k.toNatClampNeg x29) := kw_F_ui F32 (by decide)
                        refine kw_aload_n (pc := 139) (i := 75) (k := 4) (n := 0) rfl rfl rfl ?_
                        refine kw_iload_n (pc := 140) (i := 76) (k := 5) (n := 1) rfl rfl rfl ?_
                        refine kw_iconst (pc := 141) (i := 77) (v := 1) rfl rfl ?_
                        refine kw_iadd (pc := 142) (i := 78) rfl (fun z88 e_z88 t_z88 => ?_)
                        replace hF := kf_le e_z88 hF
                        refine kw_iload (pc := 143) (i := 79) (k := 1) (n := 6) rfl rfl ?_
                        refine kw_iload (pc := 145) (i := 80) (k := 0) (n := 7) rfl rfl ?_
                        refine kw_callV (pc := 147) (i := 81) (Y := mX6_sailFrom) (a := 7) (As := [.int z88, .int z45, .int z80]) (st := []) kw_hE rfl rfl lvX6_74 arX6_sailFrom (ih (kw_ui S30 27 k.toNatClampNeg x29) I86 z88 z45 z80 (by first | omega | decide) (by first | omega | decide)) (by omega) (Nat.le_of_ble_eq_true rfl) rfl (fun v S90 p89 => ?_)
                        obtain ⟨⟨I92, F93⟩, rfl, ef91⟩ := p89
                        have F94 : kw_F [7, 24, 27] σ S90 := kw_F.tr F87 F93 (by decide)
                        replace hF := kf_le ef91 hF
                        show kw_AW l (3 + (n + 1)) kw_E0 KX mX6_sailFrom (p_X6_sailFrom_7 (n + 1) σ k m t) 150 [(7, .int z80), (6, .int z45), (5, .int x29), (4, .ref 52), (0, .ref 7), (1, .int k), (2, .int m), (3, .int t)] [] S90
                        refine kw_iinc' (pc := 150) (i := 82) (k := 2) (fun z => [(5, .int z), (7, .int z80), (6, .int z45), (4, .ref 52), (0, .ref 7), (1, .int k), (2, .int m), (3, .int t)]) rfl rfl (by decide) rfl (fun _ => rfl) (fun z95 e_z95 t_z95 => ?_)
                        replace hF := kf_le e_z95 hF
                        refine kw_goto (pc := 153) (i := 83) (tgt := 49) rfl rfl ?_
                        refine kw_sub (lv' := [(5, .int z95), (4, .ref 52), (0, .ref 7), (1, .int k), (2, .int m), (3, .int t)]) [0, 3, 4, 5, 6, 7] rfl ?_
                        exact ih34 z95 S90 I92 F94 (by omega) hF (by omega)
                      · replace hF := kf_p c85 hF
                        refine kw_goto (pc := 128) (i := 69) (tgt := 150) rfl rfl ?_
                        refine kw_iinc' (pc := 150) (i := 82) (k := 2) (fun z => [(5, .int z), (7, .int z80), (6, .int z45), (4, .ref 52), (0, .ref 7), (1, .int k), (2, .int m), (3, .int t)]) rfl rfl (by decide) rfl (fun _ => rfl) (fun z96 e_z96 t_z96 => ?_)
                        replace hF := kf_le e_z96 hF
                        refine kw_goto (pc := 153) (i := 83) (tgt := 49) rfl rfl ?_
                        refine kw_sub (lv' := [(5, .int z96), (4, .ref 52), (0, .ref 7), (1, .int k), (2, .int m), (3, .int t)]) [0, 3, 4, 5, 6, 7] rfl ?_
                        exact ih34 z96 S30 I31 F32 (by omega) hF (by omega)
                  · replace hF := kf_nl c74 hF
                    refine kw_goto (pc := 95) (i := 53) (tgt := 150) rfl rfl ?_
                    refine kw_iinc' (pc := 150) (i := 82) (k := 1) (fun z => [(5, .int z), (6, .int z45), (4, .ref 52), (0, .ref 7), (1, .int k), (2, .int m), (3, .int t)]) rfl rfl (by decide) rfl (fun _ => rfl) (fun z97 e_z97 t_z97 => ?_)
                    replace hF := kf_le e_z97 hF
                    refine kw_goto (pc := 153) (i := 83) (tgt := 49) rfl rfl ?_
                    refine kw_sub (lv' := [(5, .int z97), (4, .ref 52), (0, .ref 7), (1, .int k), (2, .int m), (3, .int t)]) [0, 2, 3, 4, 5, 6] rfl ?_
                    exact ih34 z97 S30 I31 F32 (by omega) hF (by omega)
          exact L33 _ 0 σ hI hF0 (by omega) hF (Nat.lt_succ_self _)
        · replace hF := kf_n (fun q => absurd (w28.symm.trans q) (by decide)) hF
          replace hF := kf_p w28 hF
          have e_w28 : k.toNatClampNeg = 1 := by have := kw_clampI (x := k) (by omega); omega
          refine kw_aald (pc := 43) (i := 25) (b := 53) rfl rfl (by decide) (by omega) (by rw [e_w28]; rfl) ?_
          refine kw_astore (pc := 44) (i := 26) (n := 4) (lv' := [(4, .ref 53), (0, .ref 7), (1, .int k), (2, .int m), (3, .int t)]) rfl (by decide) rfl ?_
          refine kw_iconst (pc := 46) (i := 27) (v := 0) rfl rfl ?_
          refine kw_istore (pc := 47) (i := 28) (n := 5) (lv' := [(5, .int 0), (4, .ref 53), (0, .ref 7), (1, .int k), (2, .int m), (3, .int t)]) rfl (by decide) rfl ?_
          have L102 : ∀ (n106 : Nat) (x98 : Int32) (S99 : kw_S), kw_I bX S99 → kw_F [7, 24, 27] σ S99 → 0 ≤ x98.toInt → l_X6_sailFrom_7_49a (f_X6_sailFrom_7 n) k m t n106 x98 S99 = (f_X6_sailFrom_7 (n + 1) σ k m t) → ((σ.1 53 3).toInt - x98.toInt).toNat < n106 → kw_AW l (3 + (n + 1)) kw_E0 KX mX6_sailFrom (p_X6_sailFrom_7 (n + 1) σ k m t) 49 [(5, .int x98), (4, .ref 53), (0, .ref 7), (1, .int k), (2, .int m), (3, .int t)] [] S99 := by
            intro n106
            induction n106 with
            | zero => intro x98 S99 I100 F101 v104 hF m105; exact absurd m105 (Nat.not_lt_zero _)
            | succ n106 ih103 =>
              intro x98 S99 I100 F101 v104 hF m105
              replace hF := kf_st (l_X6_sailFrom_7_49a_s _ _ _ _ _ _ _) hF
              have r_x98 := kw_rng x98
              have w_f := congrArg Int32.toInt (kw_F.at (a := 53) (j := 3) F101 (by decide))
              refine kw_iload (pc := 49) (i := 29) (k := 0) (n := 5) rfl rfl ?_
              refine kw_aload (pc := 51) (i := 30) (k := 1) (n := 4) rfl rfl ?_
              refine kw_get (pc := 53) (i := 31) (v := .int (S99.1 53 3)) rfl rfl rfl lkX6_87 (fun _ => rfl) ?_
              have b107 := kw_rng (S99.1 53 3)
              refine kw_icmp_ge (pc := 56) (i := 32) (tgt := 156) rfl rfl (fun c108 => ?_) (fun c108 => ?_)
              · replace hF := kf_nl c108 hF
                exact kw_return (pc := 156) (i := 84) rfl rfl ⟨⟨I100, F101⟩, rfl, hF⟩
              · replace hF := kf_p c108 hF
                refine kw_iload_n (pc := 59) (i := 33) (k := 4) (n := 2) rfl rfl rfl ?_
                refine kw_aload (pc := 60) (i := 34) (k := 1) (n := 4) rfl rfl ?_
                refine kw_iload (pc := 62) (i := 35) (k := 0) (n := 5) rfl rfl ?_
                refine kw_callV (pc := 64) (i := 36) (Y := mX0_milesOf) (a := 53) (As := [.int x98]) (st := [.int m]) kw_hE rfl rfl lvX6_90 arX0_milesOf (c_X0_milesOf_53 l S99 I100 x98 ) (by omega) (Nat.le_of_ble_eq_true rfl) rfl (fun v S110 p109 => ?_)
                obtain ⟨e113, z112, rfl, ef111⟩ := p109
                rw [e113]
                replace hF := kf_le ef111 hF
                have r_z112 := kw_rng z112
                show kw_AW l (3 + (n + 1)) kw_E0 KX mX6_sailFrom (p_X6_sailFrom_7 (n + 1) σ k m t) 67 [(5, .int x98), (4, .ref 53), (0, .ref 7), (1, .int k), (2, .int m), (3, .int t)] [.int z112, .int m] S99
                refine kw_iadd (pc := 67) (i := 37) rfl (fun z114 e_z114 t_z114 => ?_)
                replace hF := kf_le e_z114 hF
                refine kw_istore (pc := 68) (i := 38) (n := 6) (lv' := [(6, .int z114), (5, .int x98), (4, .ref 53), (0, .ref 7), (1, .int k), (2, .int m), (3, .int t)]) rfl (by decide) rfl ?_
                refine kw_aload_n (pc := 70) (i := 39) (k := 3) (n := 0) rfl rfl rfl ?_
                refine kw_get (pc := 71) (i := 40) (v := .int (S99.1 7 5)) rfl rfl rfl lkX6_41 (fun _ => rfl) ?_
                have b115 : 0 ≤ (S99.1 7 5).toInt ∧ (S99.1 7 5).toInt ≤ 1 := I100 7 5
                refine kw_if_eq (pc := 74) (i := 41) (tgt := 98) rfl rfl (fun c116 => ?_) (fun c116 => ?_)
                · replace hF := kf_p c116 hF
                  refine kw_iload_n (pc := 98) (i := 54) (k := 6) (n := 3) rfl rfl rfl ?_
                  refine kw_aload (pc := 99) (i := 55) (k := 2) (n := 4) rfl rfl ?_
                  refine kw_iload (pc := 101) (i := 56) (k := 1) (n := 5) rfl rfl ?_
                  refine kw_callV (pc := 103) (i := 57) (Y := mX0_turnBy) (a := 53) (As := [.int x98]) (st := [.int t]) kw_hE rfl rfl lvX6_93 arX0_turnBy (c_X0_turnBy_53 l S99 I100 x98 ) (by omega) (Nat.le_of_ble_eq_true rfl) rfl (fun v S118 p117 => ?_)
                  obtain ⟨e121, z120, rfl, ef119⟩ := p117
                  rw [e121]
                  replace hF := kf_le ef119 hF
                  have r_z120 := kw_rng z120
                  show kw_AW l (3 + (n + 1)) kw_E0 KX mX6_sailFrom (p_X6_sailFrom_7 (n + 1) σ k m t) 106 [(6, .int z114), (5, .int x98), (4, .ref 53), (0, .ref 7), (1, .int k), (2, .int m), (3, .int t)] [.int z120, .int t] S99
                  refine kw_iadd (pc := 106) (i := 58) rfl (fun z122 e_z122 t_z122 => ?_)
                  replace hF := kf_le e_z122 hF
                  refine kw_istore (pc := 107) (i := 59) (n := 7) (lv' := [(7, .int z122), (6, .int z114), (5, .int x98), (4, .ref 53), (0, .ref 7), (1, .int k), (2, .int m), (3, .int t)]) rfl (by decide) rfl ?_
                  refine kw_iload (pc := 109) (i := 60) (k := 0) (n := 7) rfl rfl ?_
                  refine kw_aload_n (pc := 111) (i := 61) (k := 4) (n := 0) rfl rfl rfl ?_
                  refine kw_get (pc := 112) (i := 62) (v := .int (S99.1 7 7)) rfl rfl rfl lkX6_38 (fun _ => rfl) ?_
                  have b123 := kw_rng (S99.1 7 7)
                  refine kw_icmp_gt (pc := 115) (i := 63) (tgt := 150) rfl rfl (fun c124 => ?_) (fun c124 => ?_)
                  · replace hF := kf_p c124 hF
                    refine kw_iinc' (pc := 150) (i := 82) (k := 2) (fun z => [(5, .int z), (7, .int z122), (6, .int z114), (4, .ref 53), (0, .ref 7), (1, .int k), (2, .int m), (3, .int t)]) rfl rfl (by decide) rfl (fun _ => rfl) (fun z125 e_z125 t_z125 => ?_)
                    replace hF := kf_le e_z125 hF
                    refine kw_goto (pc := 153) (i := 83) (tgt := 49) rfl rfl ?_
                    refine kw_sub (lv' := [(5, .int z125), (4, .ref 53), (0, .ref 7), (1, .int k), (2, .int m), (3, .int t)]) [0, 3, 4, 5, 6, 7] rfl ?_
                    exact ih103 z125 S99 I100 F101 (by omega) hF (by omega)
                  · replace hF := kf_nl c124 hF
                    refine kw_iload (pc := 118) (i := 64) (k := 0) (n := 7) rfl rfl ?_
                    refine kw_aload_n (pc := 120) (i := 65) (k := 4) (n := 0) rfl rfl rfl ?_
                    refine kw_get (pc := 121) (i := 66) (v := .int (S99.1 7 7)) rfl rfl rfl lkX6_38 (fun _ => rfl) ?_
                    refine kw_ineg (pc := 124) (i := 67) rfl (fun z126 e_z126 t_z126 => ?_)
                    replace hF := kf_le e_z126 hF
                    refine kw_icmp_ge (pc := 125) (i := 68) (tgt := 131) rfl rfl (fun c127 => ?_) (fun c127 => ?_)
                    · replace hF := kf_nl c127 hF
                      refine kw_aload_n (pc := 131) (i := 70) (k := 4) (n := 0) rfl rfl rfl ?_
                      refine kw_get (pc := 132) (i := 71) (v := .ref 27) rfl rfl rfl lkX6_24 (fun _ => rfl) ?_
                      refine kw_iload_n (pc := 135) (i := 72) (k := 5) (n := 1) rfl rfl rfl ?_
                      refine kw_iload (pc := 136) (i := 73) (k := 2) (n := 5) rfl rfl ?_
                      refine kw_iast (pc := 138) (i := 74) (n := 3) rfl rfl (by omega) (by omega) ?_
                      have I128 : kw_I bX (kw_ui S99 27 k.toNatClampNeg x98) := kw_I_ui I100 (kw_rng x98).1 (Int.le_of_lt_add_one (kw_rng x98).2)
                      have F129 : kw_F [7, 24, 27] σ (kw_ui S99 27 k.toNatClampNeg x98) := kw_F_ui F101 (by decide)
                      refine kw_aload_n (pc := 139) (i := 75) (k := 4) (n := 0) rfl rfl rfl ?_
                      refine kw_iload_n (pc := 140) (i := 76) (k := 5) (n := 1) rfl rfl rfl ?_
                      refine kw_iconst (pc := 141) (i := 77) (v := 1) rfl rfl ?_
                      refine kw_iadd (pc := 142) (i := 78) rfl (fun z130 e_z130 t_z130 => ?_)
                      replace hF := kf_le e_z130 hF
                      refine kw_iload (pc := 143) (i := 79) (k := 1) (n := 6) rfl rfl ?_
                      refine kw_iload (pc := 145) (i := 80) (k := 0) (n := 7) rfl rfl ?_
                      refine kw_callV (pc := 147) (i := 81) (Y := mX6_sailFrom) (a := 7) (As := [.int z130, .int z114, .int z122]) (st := []) kw_hE rfl rfl lvX6_74 arX6_sailFrom (ih (kw_ui S99 27 k.toNatClampNeg x98) I128 z130 z114 z122 (by first | omega | decide) (by first | omega | decide)) (by omega) (Nat.le_of_ble_eq_true rfl) rfl (fun v S132 p131 => ?_)
                      obtain ⟨⟨I134, F135⟩, rfl, ef133⟩ := p131
                      have F136 : kw_F [7, 24, 27] σ S132 := kw_F.tr F129 F135 (by decide)
                      replace hF := kf_le ef133 hF
                      show kw_AW l (3 + (n + 1)) kw_E0 KX mX6_sailFrom (p_X6_sailFrom_7 (n + 1) σ k m t) 150 [(7, .int z122), (6, .int z114), (5, .int x98), (4, .ref 53), (0, .ref 7), (1, .int k), (2, .int m), (3, .int t)] [] S132
                      refine kw_iinc' (pc := 150) (i := 82) (k := 2) (fun z => [(5, .int z), (7, .int z122), (6, .int z114), (4, .ref 53), (0, .ref 7), (1, .int k), (2, .int m), (3, .int t)]) rfl rfl (by decide) rfl (fun _ => rfl) (fun z137 e_z137 t_z137 => ?_)
                      replace hF := kf_le e_z137 hF
                      refine kw_goto (pc := 153) (i := 83) (tgt := 49) rfl rfl ?_
                      refine kw_sub (lv' := [(5, .int z137), (4, .ref 53), (0, .ref 7), (1, .int k), (2, .int m), (3, .int t)]) [0, 3, 4, 5, 6, 7] rfl ?_
                      exact ih103 z137 S132 I134 F136 (by omega) hF (by omega)
                    · replace hF := kf_p c127 hF
                      refine kw_goto (pc := 128) (i := 69) (tgt := 150) rfl rfl ?_
                      refine kw_iinc' (pc := 150) (i := 82) (k := 2) (fun z => [(5, .int z), (7, .int z122), (6, .int z114), (4, .ref 53), (0, .ref 7), (1, .int k), (2, .int m), (3, .int t)]) rfl rfl (by decide) rfl (fun _ => rfl) (fun z138 e_z138 t_z138 => ?_)
                      replace hF := kf_le e_z138 hF
                      refine kw_goto (pc := 153) (i := 83) (tgt := 49) rfl rfl ?_
                      refine kw_sub (lv' := [(5, .int z138), (4, .ref 53), (0, .ref 7), (1, .int k), (2, .int m), (3, .int t)]) [0, 3, 4, 5, 6, 7] rfl ?_
                      exact ih103 z138 S99 I100 F101 (by omega) hF (by omega)
                · replace hF := kf_n c116 hF
                  refine kw_iload (pc := 77) (i := 42) (k := 0) (n := 6) rfl rfl ?_
                  refine kw_aload_n (pc := 79) (i := 43) (k := 3) (n := 0) rfl rfl rfl ?_
                  refine kw_get (pc := 80) (i := 44) (v := .ref 26) rfl rfl rfl lkX6_21 (fun _ => rfl) ?_
                  refine kw_iload_n (pc := 83) (i := 45) (k := 4) (n := 1) rfl rfl rfl ?_
                  refine kw_iconst (pc := 84) (i := 46) (v := 1) rfl rfl ?_
                  refine kw_iadd (pc := 85) (i := 47) rfl (fun z139 e_z139 t_z139 => ?_)
                  replace hF := kf_le e_z139 hF
                  refine kw_iald (pc := 86) (i := 48) (n := 4) rfl rfl (by omega) (by omega) (fun z140 e_z140 => ?_)
                  replace hF := kf_le e_z140 hF
                  have t_z140 := congrArg Int32.toInt e_z140
                  have r_z140 := kw_rng z140
                  refine kw_iadd (pc := 87) (i := 49) rfl (fun z141 e_z141 t_z141 => ?_)
                  replace hF := kf_le e_z141 hF
                  refine kw_aload_n (pc := 88) (i := 50) (k := 3) (n := 0) rfl rfl rfl ?_
                  refine kw_get (pc := 89) (i := 51) (v := .int (S99.1 7 1)) rfl rfl rfl lkX6_78 (fun _ => rfl) ?_
                  have b142 := kw_rng (S99.1 7 1)
                  refine kw_icmp_gt (pc := 92) (i := 52) (tgt := 98) rfl rfl (fun c143 => ?_) (fun c143 => ?_)
                  · replace hF := kf_p c143 hF
                    refine kw_iload_n (pc := 98) (i := 54) (k := 6) (n := 3) rfl rfl rfl ?_
                    refine kw_aload (pc := 99) (i := 55) (k := 2) (n := 4) rfl rfl ?_
                    refine kw_iload (pc := 101) (i := 56) (k := 1) (n := 5) rfl rfl ?_
                    refine kw_callV (pc := 103) (i := 57) (Y := mX0_turnBy) (a := 53) (As := [.int x98]) (st := [.int t]) kw_hE rfl rfl lvX6_93 arX0_turnBy (c_X0_turnBy_53 l S99 I100 x98 ) (by omega) (Nat.le_of_ble_eq_true rfl) rfl (fun v S145 p144 => ?_)
                    obtain ⟨e148, z147, rfl, ef146⟩ := p144
                    rw [e148]
                    replace hF := kf_le ef146 hF
                    have r_z147 := kw_rng z147
                    show kw_AW l (3 + (n + 1)) kw_E0 KX mX6_sailFrom (p_X6_sailFrom_7 (n + 1) σ k m t) 106 [(6, .int z114), (5, .int x98), (4, .ref 53), (0, .ref 7), (1, .int k), (2, .int m), (3, .int t)] [.int z147, .int t] S99
                    refine kw_iadd (pc := 106) (i := 58) rfl (fun z149 e_z149 t_z149 => ?_)
                    replace hF := kf_le e_z149 hF
                    refine kw_istore (pc := 107) (i := 59) (n := 7) (lv' := [(7, .int z149), (6, .int z114), (5, .int x98), (4, .ref 53), (0, .ref 7), (1, .int k), (2, .int m), (3, .int t)]) rfl (by decide) rfl ?_
                    refine kw_iload (pc := 109) (i := 60) (k := 0) (n := 7) rfl rfl ?_
                    refine kw_aload_n (pc := 111) (i := 61) (k := 4) (n := 0) rfl rfl rfl ?_
                    refine kw_get (pc := 112) (i := 62) (v := .int (S99.1 7 7)) rfl rfl rfl lkX6_38 (fun _ => rfl) ?_
                    have b150 := kw_rng (S99.1 7 7)
                    refine kw_icmp_gt (pc := 115) (i := 63) (tgt := 150) rfl rfl (fun c151 => ?_) (fun c151 => ?_)
                    · replace hF := kf_p c151 hF
                      refine kw_iinc' (pc := 150) (i := 82) (k := 2) (fun z => [(5, .int z), (7, .int z149), (6, .int z114), (4, .ref 53), (0, .ref 7), (1, .int k), (2, .int m), (3, .int t)]) rfl rfl (by decide) rfl (fun _ => rfl) (fun z152 e_z152 t_z152 => ?_)
                      replace hF := kf_le e_z152 hF
                      refine kw_goto (pc := 153) (i := 83) (tgt := 49) rfl rfl ?_
                      refine kw_sub (lv' := [(5, .int z152), (4, .ref 53), (0, .ref 7), (1, .int k), (2, .int m), (3, .int t)]) [0, 3, 4, 5, 6, 7] rfl ?_
                      exact ih103 z152 S99 I100 F101 (by omega) hF (by omega)
                    · replace hF := kf_nl c151 hF
                      refine kw_iload (pc := 118) (i := 64) (k := 0) (n := 7) rfl rfl ?_
                      refine kw_aload_n (pc := 120) (i := 65) (k := 4) (n := 0) rfl rfl rfl ?_
                      refine kw_get (pc := 121) (i := 66) (v := .int (S99.1 7 7)) rfl rfl rfl lkX6_38 (fun _ => rfl) ?_
                      refine kw_ineg (pc := 124) (i := 67) rfl (fun z153 e_z153 t_z153 => ?_)
                      replace hF := kf_le e_z153 hF
                      refine kw_icmp_ge (pc := 125) (i := 68) (tgt := 131) rfl rfl (fun c154 => ?_) (fun c154 => ?_)
                      · replace hF := kf_nl c154 hF
                        refine kw_aload_n (pc := 131) (i := 70) (k := 4) (n := 0) rfl rfl rfl ?_
                        refine kw_get (pc := 132) (i := 71) (v := .ref 27) rfl rfl rfl lkX6_24 (fun _ => rfl) ?_
                        refine kw_iload_n (pc := 135) (i := 72) (k := 5) (n := 1) rfl rfl rfl ?_
                        refine kw_iload (pc := 136) (i := 73) (k := 2) (n := 5) rfl rfl ?_
                        refine kw_iast (pc := 138) (i := 74) (n := 3) rfl rfl (by omega) (by omega) ?_
                        have I155 : kw_I bX (kw_ui S99 27 k.toNatClampNeg x98) := kw_I_ui I100 (kw_rng x98).1 (Int.le_of_lt_add_one (kw_rng x98).2)
                        have F156 : kw_F [7, 24, 27] σ (kw_ui S99 27 k.toNatClampNeg x98) := kw_F_ui F101 (by decide)
                        refine kw_aload_n (pc := 139) (i := 75) (k := 4) (n := 0) rfl rfl rfl ?_
                        refine kw_iload_n (pc := 140) (i := 76) (k := 5) (n := 1) rfl rfl rfl ?_
                        refine kw_iconst (pc := 141) (i := 77) (v := 1) rfl rfl ?_
                        refine kw_iadd (pc := 142) (i := 78) rfl (fun z157 e_z157 t_z157 => ?_)
                        replace hF := kf_le e_z157 hF
                        refine kw_iload (pc := 143) (i := 79) (k := 1) (n := 6) rfl rfl ?_
                        refine kw_iload (pc := 145) (i := 80) (k := 0) (n := 7) rfl rfl ?_
                        refine kw_callV (pc := 147) (i := 81) (Y := mX6_sailFrom) (a := 7) (As := [.int z157, .int z114, .int z149]) (st := []) kw_hE rfl rfl lvX6_74 arX6_sailFrom (ih (kw_ui S99 27 k.toNatClampNeg x98) I155 z157 z114 z149 (by first | omega | decide) (by first | omega | decide)) (by omega) (Nat.le_of_ble_eq_true rfl) rfl (fun v S159 p158 => ?_)
                        obtain ⟨⟨I161, F162⟩, rfl, ef160⟩ := p158
                        have F163 : kw_F [7, 24, 27] σ S159 := kw_F.tr F156 F162 (by decide)
                        replace hF := kf_le ef160 hF
                        show kw_AW l (3 + (n + 1)) kw_E0 KX mX6_sailFrom (p_X6_sailFrom_7 (n + 1) σ k m t) 150 [(7, .int z149), (6, .int z114), (5, .int x98), (4, .ref 53), (0, .ref 7), (1, .int k), (2, .int m), (3, .int t)] [] S159
                        refine kw_iinc' (pc := 150) (i := 82) (k := 2) (fun z => [(5, .int z), (7, .int z149), (6, .int z114), (4, .ref 53), (0, .ref 7), (1, .int k), (2, .int m), (3, .int t)]) rfl rfl (by decide) rfl (fun _ => rfl) (fun z164 e_z164 t_z164 => ?_)
                        replace hF := kf_le e_z164 hF
                        refine kw_goto (pc := 153) (i := 83) (tgt := 49) rfl rfl ?_
                        refine kw_sub (lv' := [(5, .int z164), (4, .ref 53), (0, .ref 7), (1, .int k), (2, .int m), (3, .int t)]) [0, 3, 4, 5, 6, 7] rfl ?_
                        exact ih103 z164 S159 I161 F163 (by omega) hF (by omega)
                      · replace hF := kf_p c154 hF
                        refine kw_goto (pc := 128) (i := 69) (tgt := 150) rfl rfl ?_
                        refine kw_iinc' (pc := 150) (i := 82) (k := 2) (fun z => [(5, .int z), (7, .int z149), (6, .int z114), (4, .ref 53), (0, .ref 7), (1, .int k), (2, .int m), (3, .int t)]) rfl rfl (by decide) rfl (fun _ => rfl) (fun z165 e_z165 t_z165 => ?_)
                        replace hF := kf_le e_z165 hF
                        refine kw_goto (pc := 153) (i := 83) (tgt := 49) rfl rfl ?_
                        refine kw_sub (lv' := [(5, .int z165), (4, .ref 53), (0, .ref 7), (1, .int k), (2, .int m), (3, .int t)]) [0, 3, 4, 5, 6, 7] rfl ?_
                        exact ih103 z165 S99 I100 F101 (by omega) hF (by omega)
                  · replace hF := kf_nl c143 hF
                    refine kw_goto (pc := 95) (i := 53) (tgt := 150) rfl rfl ?_
                    refine kw_iinc' (pc := 150) (i := 82) (k := 1) (fun z => [(5, .int z), (6, .int z114), (4, .ref 53), (0, .ref 7), (1, .int k), (2, .int m), (3, .int t)]) rfl rfl (by decide) rfl (fun _ => rfl) (fun z166 e_z166 t_z166 => ?_)
                    replace hF := kf_le e_z166 hF
                    refine kw_goto (pc := 153) (i := 83) (tgt := 49) rfl rfl ?_
                    refine kw_sub (lv' := [(5, .int z166), (4, .ref 53), (0, .ref 7), (1, .int k), (2, .int m), (3, .int t)]) [0, 2, 3, 4, 5, 6] rfl ?_
                    exact ih103 z166 S99 I100 F101 (by omega) hF (by omega)
          exact L102 _ 0 σ hI hF0 (by omega) hF (Nat.lt_succ_self _)
        · replace hF := kf_n (fun q => absurd (w28.symm.trans q) (by decide)) hF
          replace hF := kf_n (fun q => absurd (w28.symm.trans q) (by decide)) hF
          replace hF := kf_p w28 hF
          have e_w28 : k.toNatClampNeg = 2 := by have := kw_clampI (x := k) (by omega); omega
          refine kw_aald (pc := 43) (i := 25) (b := 54) rfl rfl (by decide) (by omega) (by rw [e_w28]; rfl) ?_
          refine kw_astore (pc := 44) (i := 26) (n := 4) (lv' := [(4, .ref 54), (0, .ref 7), (1, .int k), (2, .int m), (3, .int t)]) rfl (by decide) rfl ?_
          refine kw_iconst (pc := 46) (i := 27) (v := 0) rfl rfl ?_
          refine kw_istore (pc := 47) (i := 28) (n := 5) (lv' := [(5, .int 0), (4, .ref 54), (0, .ref 7), (1, .int k), (2, .int m), (3, .int t)]) rfl (by decide) rfl ?_
          have L171 : ∀ (n175 : Nat) (x167 : Int32) (S168 : kw_S), kw_I bX S168 → kw_F [7, 24, 27] σ S168 → 0 ≤ x167.toInt → l_X6_sailFrom_7_49b (f_X6_sailFrom_7 n) k m t n175 x167 S168 = (f_X6_sailFrom_7 (n + 1) σ k m t) → ((σ.1 54 3).toInt - x167.toInt).toNat < n175 → kw_AW l (3 + (n + 1)) kw_E0 KX mX6_sailFrom (p_X6_sailFrom_7 (n + 1) σ k m t) 49 [(5, .int x167), (4, .ref 54), (0, .ref 7), (1, .int k), (2, .int m), (3, .int t)] [] S168 := by
            intro n175
            induction n175 with
            | zero => intro x167 S168 I169 F170 v173 hF m174; exact absurd m174 (Nat.not_lt_zero _)
            | succ n175 ih172 =>
              intro x167 S168 I169 F170 v173 hF m174
              replace hF := kf_st (l_X6_sailFrom_7_49b_s _ _ _ _ _ _ _) hF
              have r_x167 := kw_rng x167
              have w_f := congrArg Int32.toInt (kw_F.at (a := 54) (j := 3) F170 (by decide))
              refine kw_iload (pc := 49) (i := 29) (k := 0) (n := 5) rfl rfl ?_
              refine kw_aload (pc := 51) (i := 30) (k := 1) (n := 4) rfl rfl ?_
              refine kw_get (pc := 53) (i := 31) (v := .int (S168.1 54 3)) rfl rfl rfl lkX6_87 (fun _ => rfl) ?_
              have b176 := kw_rng (S168.1 54 3)
              refine kw_icmp_ge (pc := 56) (i := 32) (tgt := 156) rfl rfl (fun c177 => ?_) (fun c177 => ?_)
              · replace hF := kf_nl c177 hF
                exact kw_return (pc := 156) (i := 84) rfl rfl ⟨⟨I169, F170⟩, rfl, hF⟩
              · replace hF := kf_p c177 hF
                refine kw_iload_n (pc := 59) (i := 33) (k := 4) (n := 2) rfl rfl rfl ?_
                refine kw_aload (pc := 60) (i := 34) (k := 1) (n := 4) rfl rfl ?_
                refine kw_iload (pc := 62) (i := 35) (k := 0) (n := 5) rfl rfl ?_
                refine kw_callV (pc := 64) (i := 36) (Y := mX0_milesOf) (a := 54) (As := [.int x167]) (st := [.int m]) kw_hE rfl rfl lvX6_90 arX0_milesOf (c_X0_milesOf_54 l S168 I169 x167 ) (by omega) (Nat.le_of_ble_eq_true rfl) rfl (fun v S179 p178 => ?_)
                obtain ⟨e182, z181, rfl, ef180⟩ := p178
                rw [e182]
                replace hF := kf_le ef180 hF
                have r_z181 := kw_rng z181
                show kw_AW l (3 + (n + 1)) kw_E0 KX mX6_sailFrom (p_X6_sailFrom_7 (n + 1) σ k m t) 67 [(5, .int x167), (4, .ref 54), (0, .ref 7), (1, .int k), (2, .int m), (3, .int t)] [.int z181, .int m] S168
                refine kw_iadd (pc := 67) (i := 37) rfl (fun z183 e_z183 t_z183 => ?_)
                replace hF := kf_le e_z183 hF
                refine kw_istore (pc := 68) (i := 38) (n := 6) (lv' := [(6, .int z183), (5, .int x167), (4, .ref 54), (0, .ref 7), (1, .int k), (2, .int m), (3, .int t)]) rfl (by decide) rfl ?_
                refine kw_aload_n (pc := 70) (i := 39) (k := 3) (n := 0) rfl rfl rfl ?_
                refine kw_get (pc := 71) (i := 40) (v := .int (S168.1 7 5)) rfl rfl rfl lkX6_41 (fun _ => rfl) ?_
                have b184 : 0 ≤ (S168.1 7 5).toInt ∧ (S168.1 7 5).toInt ≤ 1 := I169 7 5
                refine kw_if_eq (pc := 74) (i := 41) (tgt := 98) rfl rfl (fun c185 => ?_) (fun c185 => ?_)
                · replace hF := kf_p c185 hF
                  refine kw_iload_n (pc := 98) (i := 54) (k := 6) (n := 3) rfl rfl rfl ?_
                  refine kw_aload (pc := 99) (i := 55) (k := 2) (n := 4) rfl rfl ?_
                  refine kw_iload (pc := 101) (i := 56) (k := 1) (n := 5) rfl rfl ?_
                  refine kw_callV (pc := 103) (i := 57) (Y := mX0_turnBy) (a := 54) (As := [.int x167]) (st := [.int t]) kw_hE rfl rfl lvX6_93 arX0_turnBy (c_X0_turnBy_54 l S168 I169 x167 ) (by omega) (Nat.le_of_ble_eq_true rfl) rfl (fun v S187 p186 => ?_)
                  obtain ⟨e190, z189, rfl, ef188⟩ := p186
                  rw [e190]
                  replace hF := kf_le ef188 hF
                  have r_z189 := kw_rng z189
                  show kw_AW l (3 + (n + 1)) kw_E0 KX mX6_sailFrom (p_X6_sailFrom_7 (n + 1) σ k m t) 106 [(6, .int z183), (5, .int x167), (4, .ref 54), (0, .ref 7), (1, .int k), (2, .int m), (3, .int t)] [.int z189, .int t] S168
                  refine kw_iadd (pc := 106) (i := 58) rfl (fun z191 e_z191 t_z191 => ?_)
                  replace hF := kf_le e_z191 hF
                  refine kw_istore (pc := 107) (i := 59) (n := 7) (lv' := [(7, .int z191), (6, .int z183), (5, .int x167), (4, .ref 54), (0, .ref 7), (1, .int k), (2, .int m), (3, .int t)]) rfl (by decide) rfl ?_
                  refine kw_iload (pc := 109) (i := 60) (k := 0) (n := 7) rfl rfl ?_
                  refine kw_aload_n (pc := 111) (i := 61) (k := 4) (n := 0) rfl rfl rfl ?_
                  refine kw_get (pc := 112) (i := 62) (v := .int (S168.1 7 7)) rfl rfl rfl lkX6_38 (fun _ => rfl) ?_
                  have b192 := kw_rng (S168.1 7 7)
                  refine kw_icmp_gt (pc := 115) (i := 63) (tgt := 150) rfl rfl (fun c193 => ?_) (fun c193 => ?_)
                  · replace hF := kf_p c193 hF
                    refine kw_iinc' (pc := 150) (i := 82) (k := 2) (fun z => [(5, .int z), (7, .int z191), (6, .int z183), (4, .ref 54), (0, .ref 7), (1, .int k), (2, .int m), (3, .int t)]) rfl rfl (by decide) rfl (fun _ => rfl) (fun z194 e_z194 t_z194 => ?_)
                    replace hF := kf_le e_z194 hF
                    refine kw_goto (pc := 153) (i := 83) (tgt := 49) rfl rfl ?_
                    refine kw_sub (lv' := [(5, .int z194), (4, .ref 54), (0, .ref 7), (1, .int k), (2, .int m), (3, .int t)]) [0, 3, 4, 5, 6, 7] rfl ?_
                    exact ih172 z194 S168 I169 F170 (by omega) hF (by omega)
                  · replace hF := kf_nl c193 hF
                    refine kw_iload (pc := 118) (i := 64) (k := 0) (n := 7) rfl rfl ?_
                    refine kw_aload_n (pc := 120) (i := 65) (k := 4) (n := 0) rfl rfl rfl ?_
                    refine kw_get (pc := 121) (i := 66) (v := .int (S168.1 7 7)) rfl rfl rfl lkX6_38 (fun _ => rfl) ?_
                    refine kw_ineg (pc := 124) (i := 67) rfl (fun z195 e_z195 t_z195 => ?_)
                    replace hF := kf_le e_z195 hF
                    refine kw_icmp_ge (pc := 125) (i := 68) (tgt := 131) rfl rfl (fun c196 => ?_) (fun c196 => ?_)
                    · replace hF := kf_nl c196 hF
                      refine kw_aload_n (pc := 131) (i := 70) (k := 4) (n := 0) rfl rfl rfl ?_
                      refine kw_get (pc := 132) (i := 71) (v := .ref 27) rfl rfl rfl lkX6_24 (fun _ => rfl) ?_
                      refine kw_iload_n (pc := 135) (i := 72) (k := 5) (n := 1) rfl rfl rfl ?_
                      refine kw_iload (pc := 136) (i := 73) (k := 2) (n := 5) rfl rfl ?_
                      refine kw_iast (pc := 138) (i := 74) (n := 3) rfl rfl (by omega) (by omega) ?_
                      have I197 : kw_I bX (kw_ui S168 27 k.toNatClampNeg x167) := kw_I_ui I169 (kw_rng x167).1 (Int.le_of_lt_add_one (kw_rng x167).2)
                      have F198 : kw_F [7, 24, 27] σ (kw_ui S168 27 k.toNatClampNeg x167) := kw_F_ui F170 (by decide)
                      refine kw_aload_n (pc := 139) (i := 75) (k := 4) (n := 0) rfl rfl rfl ?_
                      refine kw_iload_n (pc := 140) (i := 76) (k := 5) (n := 1) rfl rfl rfl ?_
                      refine kw_iconst (pc := 141) (i := 77) (v := 1) rfl rfl ?_
                      refine kw_iadd (pc := 142) (i := 78) rfl (fun z199 e_z199 t_z199 => ?_)
                      replace hF := kf_le e_z199 hF
                      refine kw_iload (pc := 143) (i := 79) (k := 1) (n := 6) rfl rfl ?_
                      refine kw_iload (pc := 145) (i := 80) (k := 0) (n := 7) rfl rfl ?_
                      refine kw_callV (pc := 147) (i := 81) (Y := mX6_sailFrom) (a := 7) (As := [.int z199, .int z183, .int z191]) (st := []) kw_hE rfl rfl lvX6_74 arX6_sailFrom (ih (kw_ui S168 27 k.toNatClampNeg x167) I197 z199 z183 z191 (by first | omega | decide) (by first | omega | decide)) (by omega) (Nat.le_of_ble_eq_true rfl) rfl (fun v S201 p200 => ?_)
                      obtain ⟨⟨I203, F204⟩, rfl, ef202⟩ := p200
                      have F205 : kw_F [7, 24, 27] σ S201 := kw_F.tr F198 F204 (by decide)
                      replace hF := kf_le ef202 hF
                      show kw_AW l (3 + (n + 1)) kw_E0 KX mX6_sailFrom (p_X6_sailFrom_7 (n + 1) σ k m t) 150 [(7, .int z191), (6, .int z183), (5, .int x167), (4, .ref 54), (0, .ref 7), (1, .int k), (2, .int m), (3, .int t)] [] S201
                      refine kw_iinc' (pc := 150) (i := 82) (k := 2) (fun z => [(5, .int z), (7, .int z191), (6, .int z183), (4, .ref 54), (0, .ref 7), (1, .int k), (2, .int m), (3, .int t)]) rfl rfl (by decide) rfl (fun _ => rfl) (fun z206 e_z206 t_z206 => ?_)
                      replace hF := kf_le e_z206 hF
                      refine kw_goto (pc := 153) (i := 83) (tgt := 49) rfl rfl ?_
                      refine kw_sub (lv' := [(5, .int z206), (4, .ref 54), (0, .ref 7), (1, .int k), (2, .int m), (3, .int t)]) [0, 3, 4, 5, 6, 7] rfl ?_
                      exact ih172 z206 S201 I203 F205 (by omega) hF (by omega)
                    · replace hF := kf_p c196 hF
                      refine kw_goto (pc := 128) (i := 69) (tgt := 150) rfl rfl ?_
                      refine kw_iinc' (pc := 150) (i := 82) (k := 2) (fun z => [(5, .int z), (7, .int z191), (6, .int z183), (4, .ref 54), (0, .ref 7), (1, .int k), (2, .int m), (3, .int t)]) rfl rfl (by decide) rfl (fun _ => rfl) (fun z207 e_z207 t_z207 => ?_)
                      replace hF := kf_le e_z207 hF
                      refine kw_goto (pc := 153) (i := 83) (tgt := 49) rfl rfl ?_
                      refine kw_sub (lv' := [(5, .int z207), (4, .ref 54), (0, .ref 7), (1, .int k), (2, .int m), (3, .int t)]) [0, 3, 4, 5, 6, 7] rfl ?_
                      exact ih172 z207 S168 I169 F170 (by omega) hF (by omega)
                · replace hF := kf_n c185 hF
                  refine kw_iload (pc := 77) (i := 42) (k := 0) (n := 6) rfl rfl ?_
                  refine kw_aload_n (pc := 79) (i := 43) (k := 3) (n := 0) rfl rfl rfl ?_
                  refine kw_get (pc := 80) (i := 44) (v := .ref 26) rfl rfl rfl lkX6_21 (fun _ => rfl) ?_
                  refine kw_iload_n (pc := 83) (i := 45) (k := 4) (n := 1) rfl rfl rfl ?_
                  refine kw_iconst (pc := 84) (i := 46) (v := 1) rfl rfl ?_
                  refine kw_iadd (pc := 85) (i := 47) rfl (fun z208 e_z208 t_z208 => ?_)
                  replace hF := kf_le e_z208 hF
                  refine kw_iald (pc := 86) (i := 48) (n := 4) rfl rfl (by omega) (by omega) (fun z209 e_z209 => ?_)
                  replace hF := kf_le e_z209 hF
                  have t_z209 := congrArg Int32.toInt e_z209
                  have r_z209 := kw_rng z209
                  refine kw_iadd (pc := 87) (i := 49) rfl (fun z210 e_z210 t_z210 => ?_)
                  replace hF := kf_le e_z210 hF
                  refine kw_aload_n (pc := 88) (i := 50) (k := 3) (n := 0) rfl rfl rfl ?_
                  refine kw_get (pc := 89) (i := 51) (v := .int (S168.1 7 1)) rfl rfl rfl lkX6_78 (fun _ => rfl) ?_
                  have b211 := kw_rng (S168.1 7 1)
                  refine kw_icmp_gt (pc := 92) (i := 52) (tgt := 98) rfl rfl (fun c212 => ?_) (fun c212 => ?_)
                  · replace hF := kf_p c212 hF
                    refine kw_iload_n (pc := 98) (i := 54) (k := 6) (n := 3) rfl rfl rfl ?_
                    refine kw_aload (pc := 99) (i := 55) (k := 2) (n := 4) rfl rfl ?_
                    refine kw_iload (pc := 101) (i := 56) (k := 1) (n := 5) rfl rfl ?_
                    refine kw_callV (pc := 103) (i := 57) (Y := mX0_turnBy) (a := 54) (As := [.int x167]) (st := [.int t]) kw_hE rfl rfl lvX6_93 arX0_turnBy (c_X0_turnBy_54 l S168 I169 x167 ) (by omega) (Nat.le_of_ble_eq_true rfl) rfl (fun v S214 p213 => ?_)
                    obtain ⟨e217, z216, rfl, ef215⟩ := p213
                    rw [e217]
                    replace hF := kf_le ef215 hF
                    have r_z216 := kw_rng z216
                    show kw_AW l (3 + (n + 1)) kw_E0 KX mX6_sailFrom (p_X6_sailFrom_7 (n + 1) σ k m t) 106 [(6, .int z183), (5, .int x167), (4, .ref 54), (0, .ref 7), (1, .int k), (2, .int m), (3, .int t)] [.int z216, .int t] S168
                    refine kw_iadd (pc := 106) (i := 58) rfl (fun z218 e_z218 t_z218 => ?_)
                    replace hF := kf_le e_z218 hF
                    refine kw_istore (pc := 107) (i := 59) (n := 7) (lv' := [(7, .int z218), (6, .int z183), (5, .int x167), (4, .ref 54), (0, .ref 7), (1, .int k), (2, .int m), (3, .int t)]) rfl (by decide) rfl ?_
                    refine kw_iload (pc := 109) (i := 60) (k := 0) (n := 7) rfl rfl ?_
                    refine kw_aload_n (pc := 111) (i := 61) (k := 4) (n := 0) rfl rfl rfl ?_
                    refine kw_get (pc := 112) (i := 62) (v := .int (S168.1 7 7)) rfl rfl rfl lkX6_38 (fun _ => rfl) ?_
                    have b219 := kw_rng (S168.1 7 7)
                    refine kw_icmp_gt (pc := 115) (i := 63) (tgt := 150) rfl rfl (fun c220 => ?_) (fun c220 => ?_)
                    · replace hF := kf_p c220 hF
                      refine kw_iinc' (pc := 150) (i := 82) (k := 2) (fun z => [(5, .int z), (7, .int z218), (6, .int z183), (4, .ref 54), (0, .ref 7), (1, .int k), (2, .int m), (3, .int t)]) rfl rfl (by decide) rfl (fun _ => rfl) (fun z221 e_z221 t_z221 => ?_)
                      replace hF := kf_le e_z221 hF
                      refine kw_goto (pc := 153) (i := 83) (tgt := 49) rfl rfl ?_
                      refine kw_sub (lv' := [(5, .int z221), (4, .ref 54), (0, .ref 7), (1, .int k), (2, .int m), (3, .int t)]) [0, 3, 4, 5, 6, 7] rfl ?_
                      exact ih172 z221 S168 I169 F170 (by omega) hF (by omega)
                    · replace hF := kf_nl c220 hF
                      refine kw_iload (pc := 118) (i := 64) (k := 0) (n := 7) rfl rfl ?_
                      refine kw_aload_n (pc := 120) (i := 65) (k := 4) (n := 0) rfl rfl rfl ?_
                      refine kw_get (pc := 121) (i := 66) (v := .int (S168.1 7 7)) rfl rfl rfl lkX6_38 (fun _ => rfl) ?_
                      refine kw_ineg (pc := 124) (i := 67) rfl (fun z222 e_z222 t_z222 => ?_)
                      replace hF := kf_le e_z222 hF
                      refine kw_icmp_ge (pc := 125) (i := 68) (tgt := 131) rfl rfl (fun c223 => ?_) (fun c223 => ?_)
                      · replace hF := kf_nl c223 hF
                        refine kw_aload_n (pc := 131) (i := 70) (k := 4) (n := 0) rfl rfl rfl ?_
                        refine kw_get (pc := 132) (i := 71) (v := .ref 27) rfl rfl rfl lkX6_24 (fun _ => rfl) ?_
                        refine kw_iload_n (pc := 135) (i := 72) (k := 5) (n := 1) rfl rfl rfl ?_
                        refine kw_iload (pc := 136) (i := 73) (k := 2) (n := 5) rfl rfl ?_
                        refine kw_iast (pc := 138) (i := 74) (n := 3) rfl rfl (by omega) (by omega) ?_
                        have I224 : kw_I bX (kw_ui S168 27 k.toNatClampNeg x167) := kw_I_ui I169 (kw_rng x167).1 (Int.le_of_lt_add_one (kw_rng x167).2)
                        have F225 : kw_F [7, 24, 27] σ (kw_ui S168 27 k.toNatClampNeg x167) := kw_F_ui F170 (by decide)
                        refine kw_aload_n (pc := 139) (i := 75) (k := 4) (n := 0) rfl rfl rfl ?_
                        refine kw_iload_n (pc := 140) (i := 76) (k := 5) (n := 1) rfl rfl rfl ?_
                        refine kw_iconst (pc := 141) (i := 77) (v := 1) rfl rfl ?_
                        refine kw_iadd (pc := 142) (i := 78) rfl (fun z226 e_z226 t_z226 => ?_)
                        replace hF := kf_le e_z226 hF
                        refine kw_iload (pc := 143) (i := 79) (k := 1) (n := 6) rfl rfl ?_
                        refine kw_iload (pc := 145) (i := 80) (k := 0) (n := 7) rfl rfl ?_
                        refine kw_callV (pc := 147) (i := 81) (Y := mX6_sailFrom) (a := 7) (As := [.int z226, .int z183, .int z218]) (st := []) kw_hE rfl rfl lvX6_74 arX6_sailFrom (ih (kw_ui S168 27 k.toNatClampNeg x167) I224 z226 z183 z218 (by first | omega | decide) (by first | omega | decide)) (by omega) (Nat.le_of_ble_eq_true rfl) rfl (fun v S228 p227 => ?_)
                        obtain ⟨⟨I230, F231⟩, rfl, ef229⟩ := p227
                        have F232 : kw_F [7, 24, 27] σ S228 := kw_F.tr F225 F231 (by decide)
                        replace hF := kf_le ef229 hF
                        show kw_AW l (3 + (n + 1)) kw_E0 KX mX6_sailFrom (p_X6_sailFrom_7 (n + 1) σ k m t) 150 [(7, .int z218), (6, .int z183), (5, .int x167), (4, .ref 54), (0, .ref 7), (1, .int k), (2, .int m), (3, .int t)] [] S228
                        refine kw_iinc' (pc := 150) (i := 82) (k := 2) (fun z => [(5, .int z), (7, .int z218), (6, .int z183), (4, .ref 54), (0, .ref 7), (1, .int k), (2, .int m), (3, .int t)]) rfl rfl (by decide) rfl (fun _ => rfl) (fun z233 e_z233 t_z233 => ?_)
                        replace hF := kf_le e_z233 hF
                        refine kw_goto (pc := 153) (i := 83) (tgt := 49) rfl rfl ?_
                        refine kw_sub (lv' := [(5, .int z233), (4, .ref 54), (0, .ref 7), (1, .int k), (2, .int m), (3, .int t)]) [0, 3, 4, 5, 6, 7] rfl ?_
                        exact ih172 z233 S228 I230 F232 (by omega) hF (by omega)
                      · replace hF := kf_p c223 hF
                        refine kw_goto (pc := 128) (i := 69) (tgt := 150) rfl rfl ?_
                        refine kw_iinc' (pc := 150) (i := 82) (k := 2) (fun z => [(5, .int z), (7, .int z218), (6, .int z183), (4, .ref 54), (0, .ref 7), (1, .int k), (2, .int m), (3, .int t)]) rfl rfl (by decide) rfl (fun _ => rfl) (fun z234 e_z234 t_z234 => ?_)
                        replace hF := kf_le e_z234 hF
                        refine kw_goto (pc := 153) (i := 83) (tgt := 49) rfl rfl ?_
                        refine kw_sub (lv' := [(5, .int z234), (4, .ref 54), (0, .ref 7), (1, .int k), (2, .int m), (3, .int t)]) [0, 3, 4, 5, 6, 7] rfl ?_
                        exact ih172 z234 S168 I169 F170 (by omega) hF (by omega)
                  · replace hF := kf_nl c212 hF
                    refine kw_goto (pc := 95) (i := 53) (tgt := 150) rfl rfl ?_
                    refine kw_iinc' (pc := 150) (i := 82) (k := 1) (fun z => [(5, .int z), (6, .int z183), (4, .ref 54), (0, .ref 7), (1, .int k), (2, .int m), (3, .int t)]) rfl rfl (by decide) rfl (fun _ => rfl) (fun z235 e_z235 t_z235 => ?_)
                    replace hF := kf_le e_z235 hF
                    refine kw_goto (pc := 153) (i := 83) (tgt := 49) rfl rfl ?_
                    refine kw_sub (lv' := [(5, .int z235), (4, .ref 54), (0, .ref 7), (1, .int k), (2, .int m), (3, .int t)]) [0, 2, 3, 4, 5, 6] rfl ?_
                    exact ih172 z235 S168 I169 F170 (by omega) hF (by omega)
          exact L171 _ 0 σ hI hF0 (by omega) hF (Nat.lt_succ_self _)
      · replace hF := kf_nl c27 hF
        refine kw_aload_n (pc := 13) (i := 7) (k := 0) (n := 0) rfl rfl rfl ?_
        refine kw_iconst (pc := 14) (i := 8) (v := 1) rfl rfl ?_
        refine kw_puti (pc := 15) (i := 9) (z := 0) rfl rfl rfl lpX6_41 rfl rfl ?_
        have I236 : kw_I bX (kw_ui σ 7 5 1) := kw_I_ui hI (show 0 ≤ (1 : Int32).toInt by omega) (show (1 : Int32).toInt ≤ 1 by omega)
        have F237 : kw_F [7, 24, 27] σ (kw_ui σ 7 5 1) := kw_F_ui hF0 (by decide)
        refine kw_aload_n (pc := 18) (i := 10) (k := 0) (n := 0) rfl rfl rfl ?_
        refine kw_iload_n (pc := 19) (i := 11) (k := 2) (n := 2) rfl rfl rfl ?_
        refine kw_puti (pc := 20) (i := 12) (z := 0) rfl rfl rfl lpX6_78 rfl rfl ?_
        have I238 : kw_I bX (kw_ui (kw_ui σ 7 5 1) 7 1 m) := kw_I_ui I236 (kw_rng m).1 (Int.le_of_lt_add_one (kw_rng m).2)
        have F239 : kw_F [7, 24, 27] σ (kw_ui (kw_ui σ 7 5 1) 7 1 m) := kw_F_ui F237 (by decide)
        refine kw_aload_n (pc := 23) (i := 13) (k := 0) (n := 0) rfl rfl rfl ?_
        refine kw_get (pc := 24) (i := 14) (v := .ref 27) rfl rfl rfl lkX6_24 (fun _ => rfl) ?_
        refine kw_iconst (pc := 27) (i := 15) (v := 0) rfl rfl ?_
        refine kw_aload_n (pc := 28) (i := 16) (k := 0) (n := 0) rfl rfl rfl ?_
        refine kw_get (pc := 29) (i := 17) (v := .ref 24) rfl rfl rfl lkX6_9 (fun _ => rfl) ?_
        refine kw_iconst (pc := 32) (i := 18) (v := 0) rfl rfl ?_
        refine kw_iconst (pc := 33) (i := 19) (v := 3) rfl rfl ?_
        refine kw_copy (pc := 34) (i := 20) (n := 3) (m_ := 3) rfl laX6_81 rfl rfl (by omega) (by omega) (by omega) (by omega) (by omega) (by omega) (Nat.le_of_ble_eq_true rfl) ?_
        have I240 : kw_I bX (kw_ua (kw_ui (kw_ui σ 7 5 1) 7 1 m) 24 (va_cpy ((kw_ui (kw_ui σ 7 5 1) 7 1 m).1 27) ((kw_ui (kw_ui σ 7 5 1) 7 1 m).1 24) ((0 : Int32).toNatClampNeg) ((0 : Int32).toNatClampNeg) ((3 : Int32).toNatClampNeg))) := kw_I_ua I238 (fun j => ⟨(kw_rng _).1, Int.le_of_lt_add_one (kw_rng _).2⟩)
        have F241 : kw_F [7, 24, 27] σ (kw_ua (kw_ui (kw_ui σ 7 5 1) 7 1 m) 24 (va_cpy ((kw_ui (kw_ui σ 7 5 1) 7 1 m).1 27) ((kw_ui (kw_ui σ 7 5 1) 7 1 m).1 24) ((0 : Int32).toNatClampNeg) ((0 : Int32).toNatClampNeg) ((3 : Int32).toNatClampNeg))) := kw_F_ua F239 (by decide)
        generalize hS242 : (kw_ua (kw_ui (kw_ui σ 7 5 1) 7 1 m) 24 (va_cpy ((kw_ui (kw_ui σ 7 5 1) 7 1 m).1 27) ((kw_ui (kw_ui σ 7 5 1) 7 1 m).1 24) ((0 : Int32).toNatClampNeg) ((0 : Int32).toNatClampNeg) ((3 : Int32).toNatClampNeg))) = S242 at I240 F241 ⊢
        replace hF := kf_le hS242.symm hF
        exact kw_return (pc := 37) (i := 21) rfl rfl ⟨⟨I240, F241⟩, rfl, hF⟩
