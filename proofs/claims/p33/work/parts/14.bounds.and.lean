section
/-! ===== the reference's bounds: its hours are at most T; notes and images by their places ===== -/
def bM (T : Int) : kw_B := fun a j => match a with
  | 0 => (match j with | 10 => (0, 6) | 11 => (1, 8) | 17 => (0, 60) | 18 => (0, 8) | 19 => (0, 6) | 22 => (0, T) | 25 => (0, 63) | 27 => (0, 40) | _ => (-2147483648, 2147483647))
  | 2 => (-9, 40)
  | 5 => (-9, 60)
  | 15 => if j % 10 = 0 then (0, T) else if j % 10 = 3 then (0, 63) else (-2147483648, 2147483647)
  | 17 => if j % 411 = 410 then (0, 40) else if j % 411 % 10 = 0 then (0, T) else if j % 411 % 10 = 3 then (0, 63) else (-2147483648, 2147483647)
  | _ => (-2147483648, 2147483647)
theorem kw_bM_mono {T T' : Int} (h : T ≤ T') (a j : Nat) : (bM T' a j).1 ≤ (bM T a j).1 ∧ (bM T a j).2 ≤ (bM T' a j).2 := by
  unfold bM
  split
  · split <;> (simp <;> try omega)
  · simp
  · simp
  · split
    · simp; exact h
    · simp
  · split
    · simp
    · split
      · simp; exact h
      · simp
  · simp
theorem kw_monoM {T T' : Int} (h : T ≤ T') {σ : kw_S} (hI : kw_I (bM T) σ) : kw_I (bM T') σ := fun a j => by
  have h1 := kw_bM_mono h a j
  have h2 := hI a j
  omega
theorem kw_rN {T : Int} {σ : kw_S} (hI : kw_I (bM T) σ) {x : Int32} (v : Int32) (hv : v = σ.1 15 x.toNatClampNeg) (h0 : 0 ≤ x.toInt) : (x.toInt % 10 = 0 → 0 ≤ v.toInt ∧ v.toInt ≤ T) ∧ (x.toInt % 10 = 3 → 0 ≤ v.toInt ∧ v.toInt ≤ 63) := by
  have hb := hI 15 x.toNatClampNeg
  have hc := kw_clampI h0
  subst hv
  refine ⟨fun h => ?_, fun h => ?_⟩
  · have e : bM T 15 x.toNatClampNeg = (0, T) := by
      show (if x.toNatClampNeg % 10 = 0 then _ else _) = _
      rw [if_pos (by omega)]
    rw [e] at hb; exact hb
  · have e : bM T 15 x.toNatClampNeg = (0, 63) := by
      show (if x.toNatClampNeg % 10 = 0 then _ else _) = _
      rw [if_neg (by omega), if_pos (by omega)]
    rw [e] at hb; exact hb
theorem kw_wN {T : Int} {σ : kw_S} (hI : kw_I (bM T) σ) {x : Int32} (v : Int32) (h0 : 0 ≤ x.toInt) (h1 : x.toInt % 10 = 0 → 0 ≤ v.toInt ∧ v.toInt ≤ T) (h2 : x.toInt % 10 = 3 → 0 ≤ v.toInt ∧ v.toInt ≤ 63) (_h3 : True) : kw_I (bM T) (kw_ui σ 15 x.toNatClampNeg v) := by
  have hc := kw_clampI h0
  have hr := kw_rng v
  have key : (bM T 15 x.toNatClampNeg).1 ≤ v.toInt ∧ v.toInt ≤ (bM T 15 x.toNatClampNeg).2 := by
    show (if x.toNatClampNeg % 10 = 0 then _ else _ : Int × Int).1 ≤ _ ∧ _ ≤ (if x.toNatClampNeg % 10 = 0 then _ else _ : Int × Int).2
    by_cases a : x.toNatClampNeg % 10 = 0
    · rw [if_pos a]; exact h1 (by omega)
    · rw [if_neg a]
      by_cases b : x.toNatClampNeg % 10 = 3
      · rw [if_pos b]; exact h2 (by omega)
      · rw [if_neg b]; exact ⟨by show -2147483648 ≤ _; omega, by show _ ≤ 2147483647; omega⟩
  exact kw_I_ui hI key.1 key.2
theorem kw_rI {T : Int} {σ : kw_S} (hI : kw_I (bM T) σ) {x : Int32} (v : Int32) (hv : v = σ.1 17 x.toNatClampNeg) (h0 : 0 ≤ x.toInt) (m : Int) (hm : x.toInt % 411 = m) : (m = 410 → 0 ≤ v.toInt ∧ v.toInt ≤ 40) ∧ (m ≠ 410 → m % 10 = 0 → 0 ≤ v.toInt ∧ v.toInt ≤ T) ∧ (m ≠ 410 → m % 10 = 3 → 0 ≤ v.toInt ∧ v.toInt ≤ 63) := by
  have hb := hI 17 x.toNatClampNeg
  have hc := kw_clampI h0
  subst hv
  have hk : ((x.toNatClampNeg % 411 : Nat) : Int) = m := by omega
  have e : bM T 17 x.toNatClampNeg = (if x.toNatClampNeg % 411 = 410 then (0, 40) else if x.toNatClampNeg % 411 % 10 = 0 then (0, T) else if x.toNatClampNeg % 411 % 10 = 3 then (0, 63) else (-2147483648, 2147483647)) := rfl
  rw [e] at hb
  generalize x.toNatClampNeg % 411 = k at hk hb
  refine ⟨fun h => ?_, fun h h' => ?_, fun h h' => ?_⟩
  · rw [if_pos (by omega)] at hb; exact hb
  · rw [if_neg (by omega), if_pos (by omega)] at hb; exact hb
  · rw [if_neg (by omega), if_neg (by omega), if_pos (by omega)] at hb; exact hb
theorem kw_wI {T : Int} {σ : kw_S} (hI : kw_I (bM T) σ) {x : Int32} (v : Int32) (h0 : 0 ≤ x.toInt) (m : Int) (hm : x.toInt % 411 = m) (h1 : m = 410 → 0 ≤ v.toInt ∧ v.toInt ≤ 40) (h2 : m ≠ 410 → m % 10 = 0 → 0 ≤ v.toInt ∧ v.toInt ≤ T) (h3 : m ≠ 410 → m % 10 = 3 → 0 ≤ v.toInt ∧ v.toInt ≤ 63) : kw_I (bM T) (kw_ui σ 17 x.toNatClampNeg v) := by
  have hc := kw_clampI h0
  have hr := kw_rng v
  have hk : ((x.toNatClampNeg % 411 : Nat) : Int) = m := by omega
  have key : (bM T 17 x.toNatClampNeg).1 ≤ v.toInt ∧ v.toInt ≤ (bM T 17 x.toNatClampNeg).2 := by
    have e : bM T 17 x.toNatClampNeg = (if x.toNatClampNeg % 411 = 410 then (0, 40) else if x.toNatClampNeg % 411 % 10 = 0 then (0, T) else if x.toNatClampNeg % 411 % 10 = 3 then (0, 63) else (-2147483648, 2147483647)) := rfl
    rw [e]
    generalize x.toNatClampNeg % 411 = k at hk
    by_cases a : k = 410
    · rw [if_pos a]; exact h1 (by omega)
    · rw [if_neg a]
      by_cases b : k % 10 = 0
      · rw [if_pos b]; exact h2 (by omega) (by omega)
      · rw [if_neg b]
        by_cases c : k % 10 = 3
        · rw [if_pos c]; exact h3 (by omega) (by omega)
        · rw [if_neg c]; exact ⟨by show -2147483648 ≤ _; omega, by show _ ≤ 2147483647; omega⟩
  exact kw_I_ui hI key.1 key.2
theorem kw_nn {x : Int32} (h : 0 ≤ x.toInt) : ∃ a : Nat, a < 2 ^ 31 ∧ x = nI a := by
  have e0 : (0 : Int32).toInt = 0 := rfl
  exact nI_of (fun q => by have := Int32.lt_iff_toInt_lt.mp q; omega)
theorem kw_andI (x y z : Int32) (h : z = x &&& y) : 0 ≤ x.toInt → 0 ≤ y.toInt → 0 ≤ z.toInt ∧ z.toInt ≤ x.toInt ∧ z.toInt ≤ y.toInt := by
  intro hx hy
  obtain ⟨a, ha, rfl⟩ := kw_nn hx
  obtain ⟨b, hb, rfl⟩ := kw_nn hy
  have e : nI a &&& nI b = nI (a &&& b) := by
    apply Int32.toBitVec_inj.mp
    show BitVec.ofNat 32 a &&& BitVec.ofNat 32 b = BitVec.ofNat 32 (a &&& b)
    rw [BitVec.ofNat_and]
  rw [e] at h
  subst h
  have h1 : a &&& b ≤ a := Nat.and_le_left
  have h2 : a &&& b ≤ b := Nat.and_le_right
  rw [nI_toInt (by omega), nI_toInt ha, nI_toInt hb]
  omega
theorem kw_xor63 (x y z : Int32) (h : z = x ^^^ y) : 0 ≤ x.toInt → x.toInt ≤ 63 → 0 ≤ y.toInt → y.toInt ≤ 63 → 0 ≤ z.toInt ∧ z.toInt ≤ 63 := by
  intro hx hx' hy hy'
  obtain ⟨a, ha, rfl⟩ := kw_nn hx
  obtain ⟨b, hb, rfl⟩ := kw_nn hy
  rw [nI_toInt ha] at hx'
  rw [nI_toInt hb] at hy'
  have e : nI a ^^^ nI b = nI (a ^^^ b) := by
    apply Int32.toBitVec_inj.mp
    show BitVec.ofNat 32 a ^^^ BitVec.ofNat 32 b = BitVec.ofNat 32 (a ^^^ b)
    rw [BitVec.ofNat_xor]
  rw [e] at h
  subst h
  have h1 : a ^^^ b < 2 ^ 6 := Nat.xor_lt_two_pow (by omega) (by omega)
  rw [nI_toInt (by omega)]
  omega
theorem kw_shlm (y z : Int32) (h : z = (1 : Int32) <<< (y &&& 31)) : (0 ≤ y.toInt → y.toInt ≤ 6 → 1 ≤ z.toInt ∧ z.toInt ≤ 64) ∧ (0 ≤ y.toInt → y.toInt ≤ 5 → z.toInt ≤ 32) := by
  have key : ∀ a, a < 7 → 1 ≤ ((1 : Int32) <<< (nI a &&& 31)).toInt ∧ ((1 : Int32) <<< (nI a &&& 31)).toInt ≤ 64 ∧ (a ≤ 5 → ((1 : Int32) <<< (nI a &&& 31)).toInt ≤ 32) := by decide +kernel
  subst h
  refine ⟨fun h0 h1 => ?_, fun h0 h1 => ?_⟩
  · obtain ⟨a, ha, rfl⟩ := kw_nn h0
    rw [nI_toInt ha] at h1
    have := key a (by omega)
    exact ⟨this.1, this.2.1⟩
  · obtain ⟨a, ha, rfl⟩ := kw_nn h0
    rw [nI_toInt ha] at h1
    exact (key a (by omega)).2.2 (by omega)
theorem kw_laddI (x y z : Int64) (h : z = x + y) : z.toInt = (x.toInt + y.toInt + 9223372036854775808) % 18446744073709551616 - 9223372036854775808 := by rw [h, kw_addL]
theorem kw_lmulI (x y z : Int64) (h : z = x * y) : z.toInt = (x.toInt * y.toInt + 9223372036854775808) % 18446744073709551616 - 9223372036854775808 := by rw [h, Int64.toInt_mul, kw_bmL]
theorem kw_lremE (x y : Int64) : (x - x / y * y).toInt = x.toInt.tmod y.toInt := by
  have a := kw_rngL x
  rw [Int64.toInt_sub, Int64.toInt_mul, Int64.toInt_div, Int.bmod_mul_bmod, Int.sub_bmod_bmod, Int.mul_comm, ← Int.tmod_def, ← Int64.toInt_mod]
  exact Int.bmod_eq_of_le (by have := kw_rngL (x % y); omega) (by have := kw_rngL (x % y); omega)
theorem kw_lremI (x y z : Int64) (h : z = x - x / y * y) : (0 < y.toInt → z.toInt < y.toInt ∧ -y.toInt < z.toInt) ∧ (y.toInt < 0 → z.toInt < -y.toInt ∧ y.toInt < z.toInt) ∧ (0 ≤ x.toInt → 0 ≤ z.toInt) := by
  subst h
  rw [kw_lremE]
  generalize x.toInt = a
  generalize y.toInt = b
  refine ⟨fun h => ⟨?_, ?_⟩, fun h => ⟨?_, ?_⟩, fun h => Int.tmod_nonneg b h⟩
  · exact Int.tmod_lt_of_pos a h
  · have := Int.tmod_lt_of_pos (-a) h
    rw [Int.neg_tmod] at this
    omega
  · have := Int.tmod_lt_of_pos a (b := -b) (by omega)
    rw [Int.tmod_neg] at this
    exact this
  · have := Int.tmod_lt_of_pos (-a) (b := -b) (by omega)
    rw [Int.tmod_neg, Int.neg_tmod] at this
    omega
theorem kw_l2iI (x : Int64) (z : Int32) (h : z = x.toInt32) : -2147483648 ≤ x.toInt → x.toInt < 2147483648 → z.toInt = x.toInt := by
  intro h0 h1
  subst h
  rw [Int64.toInt_toInt32]
  exact Int.bmod_eq_of_le (by omega) (by omega)
def kw_p12 (k s : Int) : Prop := s = 12 ^ k.toNat
theorem kw_p120 : kw_p12 0 1 := rfl
theorem kw_p12B {k s : Int} (h : kw_p12 k s) (h0 : 0 ≤ k) (h1 : k ≤ 6) : 1 ≤ s ∧ s ≤ 2985984 := by
  unfold kw_p12 at h
  subst h
  have key : ∀ n : Nat, n < 7 → 1 ≤ (12 : Int) ^ n ∧ (12 : Int) ^ n ≤ 2985984 := by decide +kernel
  exact key k.toNat (by omega)
theorem kw_p12S {k s k' s' : Int} (h : kw_p12 k s) (h0 : 0 ≤ k) (h1 : k' = k + 1) (h2 : s' = s * 12) : kw_p12 k' s' := by
  unfold kw_p12 at h ⊢
  subst h1; subst h2; subst h
  rw [show (k + 1).toNat = k.toNat + 1 by omega, Int.pow_succ]
end
section
noncomputable def f_X8_in (σ : kw_S) (v : Int32) (lo : Int32) (hi : Int32) : Int32 := if v.toInt < lo.toInt then ((0 : Int32)) else (if hi.toInt < v.toInt then ((0 : Int32)) else ((1 : Int32)))
theorem f_X8_in_u (σ : kw_S) (v : Int32) (lo : Int32) (hi : Int32) : f_X8_in σ v lo hi = if v.toInt < lo.toInt then ((0 : Int32)) else (if hi.toInt < v.toInt then ((0 : Int32)) else ((1 : Int32))) := rfl
abbrev p_X8_in (T : Int) (σ : kw_S) (v : Int32) (lo : Int32) (hi : Int32) : Option Value → kw_S → Prop := fun vv σ' => σ' = σ ∧ ∃ r : Int32, vv = some (.int r) ∧ (r.toInt = 0 ∨ r.toInt = 1) ∧ (r.toInt = 0 ∨ lo.toInt ≤ v.toInt ∧ v.toInt ≤ hi.toInt) ∧ (r.toInt = 1 ∨ v.toInt < lo.toInt ∨ hi.toInt < v.toInt) ∧ r = f_X8_in σ v lo hi
set_option maxRecDepth 100000 in
set_option maxHeartbeats 4000000 in
theorem c_X8_in (l : Launch) (T : Int) (hT0 : 0 ≤ T) (hT1 : T ≤ 3000) (σ : kw_S) (hI : kw_I (bM T) σ) (v : Int32) (lo : Int32) (hi : Int32) : kw_Met l 1 KM mX8_in [.int v, .int lo, .int hi] σ (p_X8_in T σ v lo hi) := by
  have r_v := kw_rng v
  have r_lo := kw_rng lo
  have r_hi := kw_rng hi
  have hF := (f_X8_in_u σ v lo hi).symm
  have q_0 : (0 : Int32).toInt = 0 := rfl
  have q_1 : (1 : Int32).toInt = 1 := rfl
  refine kw_Met.of (by decide) rfl tX8_in (Nat.le_of_ble_eq_true rfl) ?_
  show kw_AW l 1 kw_E0 KM mX8_in (p_X8_in T σ v lo hi) 0 [(0, .int v), (1, .int lo), (2, .int hi)] [] σ
  refine kw_iload_n (pc := 0) (i := 0) (k := 0) (n := 0) rfl rfl rfl ?_
  refine kw_iload_n (pc := 1) (i := 1) (k := 1) (n := 1) rfl rfl rfl ?_
  refine kw_icmp_lt (pc := 2) (i := 2) (tgt := 14) rfl rfl (fun c1 => ?_) (fun c1 => ?_)
  · replace hF := kf_p c1 hF
    refine kw_iconst (pc := 14) (i := 8) (v := 0) rfl rfl ?_
    exact kw_ireturn (pc := 15) (i := 9) (ty := .boolean) rfl rfl rfl ⟨rfl, _, rfl, by omega, by omega, by omega, hF⟩
  · replace hF := kf_nl c1 hF
    refine kw_iload_n (pc := 5) (i := 3) (k := 0) (n := 0) rfl rfl rfl ?_
    refine kw_iload_n (pc := 6) (i := 4) (k := 2) (n := 2) rfl rfl rfl ?_
    refine kw_icmp_gt (pc := 7) (i := 5) (tgt := 14) rfl rfl (fun c2 => ?_) (fun c2 => ?_)
    · replace hF := kf_p c2 hF
      refine kw_iconst (pc := 14) (i := 8) (v := 0) rfl rfl ?_
      exact kw_ireturn (pc := 15) (i := 9) (ty := .boolean) rfl rfl rfl ⟨rfl, _, rfl, by omega, by omega, by omega, hF⟩
    · replace hF := kf_nl c2 hF
      refine kw_iconst (pc := 10) (i := 6) (v := 1) rfl rfl ?_
      refine kw_goto (pc := 11) (i := 7) (tgt := 15) rfl rfl ?_
      exact kw_ireturn (pc := 15) (i := 9) (ty := .boolean) rfl rfl rfl ⟨rfl, _, rfl, by omega, by omega, by omega, hF⟩
noncomputable def f_X8_meet_0 (σ : kw_S) (w : Int32) : Int32 × kw_S := kf_l ((kw_ui σ 0 0 w).1 1 w.toNatClampNeg) fun z1 => kf_l (z1 + (1 : Int32)) fun z2 => (((-3) : Int32), kw_ui (kw_ui σ 0 0 w) 1 w.toNatClampNeg z2)
theorem f_X8_meet_0_u (σ : kw_S) (w : Int32) : f_X8_meet_0 σ w = kf_l ((kw_ui σ 0 0 w).1 1 w.toNatClampNeg) fun z1 => kf_l (z1 + (1 : Int32)) fun z2 => (((-3) : Int32), kw_ui (kw_ui σ 0 0 w) 1 w.toNatClampNeg z2) := rfl
abbrev p_X8_meet_0 (T : Int) (σ : kw_S) (w : Int32) : Option Value → kw_S → Prop := fun vv σ' => (kw_I (bM T) σ' ∧ kw_FM [1, 1000] σ σ') ∧ ∃ r : Int32, vv = some (.int r) ∧ r.toInt = -3 ∧ (r, σ') = f_X8_meet_0 σ w
set_option maxRecDepth 100000 in
set_option maxHeartbeats 4000000 in
theorem c_X8_meet_0 (l : Launch) (T : Int) (hT0 : 0 ≤ T) (hT1 : T ≤ 3000) (σ : kw_S) (hI : kw_I (bM T) σ) (w : Int32) (hp0 : 0 ≤ w.toInt) (hp1 : w.toInt ≤ 5) : kw_Met l 1 KM mX8_meet [.ref 0, .int w] σ (p_X8_meet_0 T σ w) := by
  have r_w := kw_rng w
  have hF0 : kw_FM [1, 1000] σ σ := kw_FM.rf
  have hF := (f_X8_meet_0_u σ w).symm
  have q_m3 : (-3 : Int32).toInt = -3 := rfl
  have q_1 : (1 : Int32).toInt = 1 := rfl
  refine kw_Met.of (by decide) rfl tX8_meet (Nat.le_of_ble_eq_true rfl) ?_
  show kw_AW l 1 kw_E0 KM mX8_meet (p_X8_meet_0 T σ w) 0 [(0, .ref 0), (1, .int w)] [] σ
  refine kw_aload_n (pc := 0) (i := 0) (k := 0) (n := 0) rfl rfl rfl ?_
  refine kw_iload_n (pc := 1) (i := 1) (k := 1) (n := 1) rfl rfl rfl ?_
  refine kw_puti (pc := 2) (i := 2) (z := 0) rfl rfl rfl lpX8_84 rfl rfl ?_
  have I1 : kw_I (bM T) (kw_ui σ 0 0 w) := kw_I_ui hI (kw_rng w).1 (Int.le_of_lt_add_one (kw_rng w).2)
  have F2 : kw_FM [1, 1000] σ (kw_ui σ 0 0 w) := kw_FM_ui0 hF0 (by decide)
  refine kw_aload_n (pc := 5) (i := 3) (k := 0) (n := 0) rfl rfl rfl ?_
  refine kw_get (pc := 6) (i := 4) (v := .ref 1) rfl rfl rfl lkX8_7 (fun _ => rfl) ?_
  refine kw_iload_n (pc := 9) (i := 5) (k := 1) (n := 1) rfl rfl rfl ?_
  refine kw_dup2 (pc := 10) (i := 6) rfl rfl rfl ?_
  refine kw_iald (pc := 11) (i := 7) (n := 6) rfl rfl (by omega) (by omega) (fun z3 e_z3 => ?_)
  replace hF := kf_le e_z3 hF
  have t_z3 := congrArg Int32.toInt e_z3
  have r_z3 := kw_rng z3
  refine kw_iconst (pc := 12) (i := 8) (v := 1) rfl rfl ?_
  refine kw_iadd (pc := 13) (i := 9) rfl (fun z4 e_z4 t_z4 => ?_)
  replace hF := kf_le e_z4 hF
  first | (have u_z4 : z4.toInt = z3.toInt + 1 := (by omega); clear t_z4) | skip
  refine kw_iast (pc := 14) (i := 10) (n := 6) rfl rfl (by omega) (by omega) ?_
  have I5 : kw_I (bM T) (kw_ui (kw_ui σ 0 0 w) 1 w.toNatClampNeg z4) := kw_I_ui I1 (kw_rng z4).1 (Int.le_of_lt_add_one (kw_rng z4).2)
  have F6 : kw_FM [1, 1000] σ (kw_ui (kw_ui σ 0 0 w) 1 w.toNatClampNeg z4) := kw_FM_ui F2 (by decide) (by decide)
  refine kw_bipush (pc := 15) (i := 11) (v := (-3)) rfl rfl ?_
  exact kw_ireturn (pc := 17) (i := 12) (ty := .int) rfl rfl rfl ⟨⟨I5, F6⟩, _, rfl, by omega, hF⟩
noncomputable def f_X8_ask_0 (σ : kw_S) (v : Int32) (w : Int32) : Int32 × kw_S := (w, kw_ui σ 0 2 v)
theorem f_X8_ask_0_u (σ : kw_S) (v : Int32) (w : Int32) : f_X8_ask_0 σ v w = (w, kw_ui σ 0 2 v) := rfl
abbrev p_X8_ask_0 (T : Int) (σ : kw_S) (v : Int32) (w : Int32) : Option Value → kw_S → Prop := fun vv σ' => (kw_I (bM T) σ' ∧ kw_FM [1002] σ σ') ∧ ∃ r : Int32, vv = some (.int r) ∧ r.toInt = w.toInt ∧ (r, σ') = f_X8_ask_0 σ v w
set_option maxRecDepth 100000 in
set_option maxHeartbeats 4000000 in
theorem c_X8_ask_0 (l : Launch) (T : Int) (hT0 : 0 ≤ T) (hT1 : T ≤ 3000) (σ : kw_S) (hI : kw_I (bM T) σ) (v : Int32) (w : Int32) : kw_Met l 1 KM mX8_ask [.ref 0, .int v, .int w] σ (p_X8_ask_0 T σ v w) := by
  have r_v := kw_rng v
  have r_w := kw_rng w
  have hF0 : kw_FM [1002] σ σ := kw_FM.rf
  have hF := (f_X8_ask_0_u σ v w).symm
  refine kw_Met.of (by decide) rfl tX8_ask (Nat.le_of_ble_eq_true rfl) ?_
  show kw_AW l 1 kw_E0 KM mX8_ask (p_X8_ask_0 T σ v w) 0 [(0, .ref 0), (1, .int v), (2, .int w)] [] σ
  refine kw_aload_n (pc := 0) (i := 0) (k := 0) (n := 0) rfl rfl rfl ?_
  refine kw_iload_n (pc := 1) (i := 1) (k := 1) (n := 1) rfl rfl rfl ?_
  refine kw_puti (pc := 2) (i := 2) (z := 0) rfl rfl rfl lpX8_87 rfl rfl ?_
  have I1 : kw_I (bM T) (kw_ui σ 0 2 v) := kw_I_ui hI (kw_rng v).1 (Int.le_of_lt_add_one (kw_rng v).2)
  have F2 : kw_FM [1002] σ (kw_ui σ 0 2 v) := kw_FM_ui0 hF0 (by decide)
  refine kw_iload_n (pc := 5) (i := 3) (k := 2) (n := 2) rfl rfl rfl ?_
  exact kw_ireturn (pc := 6) (i := 4) (ty := .int) rfl rfl rfl ⟨⟨I1, F2⟩, _, rfl, by omega, hF⟩
noncomputable def f_X8_has (σ : kw_S) (s : Int32) (k : Int32) : Int32 := kf_l (s >>> (k &&& 31)) fun z1 => kf_l (z1 &&& (1 : Int32)) fun z2 => if z2.toInt = (1 : Int32).toInt then ((1 : Int32)) else ((0 : Int32))
theorem f_X8_has_u (σ : kw_S) (s : Int32) (k : Int32) : f_X8_has σ s k = kf_l (s >>> (k &&& 31)) fun z1 => kf_l (z1 &&& (1 : Int32)) fun z2 => if z2.toInt = (1 : Int32).toInt then ((1 : Int32)) else ((0 : Int32)) := rfl
abbrev p_X8_has (T : Int) (σ : kw_S) (s : Int32) (k : Int32) : Option Value → kw_S → Prop := fun vv σ' => σ' = σ ∧ ∃ r : Int32, vv = some (.int r) ∧ (r.toInt = 0 ∨ r.toInt = 1) ∧ r = f_X8_has σ s k
set_option maxRecDepth 100000 in
set_option maxHeartbeats 4000000 in
theorem c_X8_has (l : Launch) (T : Int) (hT0 : 0 ≤ T) (hT1 : T ≤ 3000) (σ : kw_S) (hI : kw_I (bM T) σ) (s : Int32) (k : Int32) : kw_Met l 1 KM mX8_has [.int s, .int k] σ (p_X8_has T σ s k) := by
  have r_s := kw_rng s
  have r_k := kw_rng k
  have hF := (f_X8_has_u σ s k).symm
  have q_0 : (0 : Int32).toInt = 0 := rfl
  have q_1 : (1 : Int32).toInt = 1 := rfl
  refine kw_Met.of (by decide) rfl tX8_has (Nat.le_of_ble_eq_true rfl) ?_
  show kw_AW l 1 kw_E0 KM mX8_has (p_X8_has T σ s k) 0 [(0, .int s), (1, .int k)] [] σ
  refine kw_iload_n (pc := 0) (i := 0) (k := 0) (n := 0) rfl rfl rfl ?_
  refine kw_iload_n (pc := 1) (i := 1) (k := 1) (n := 1) rfl rfl rfl ?_
  refine kw_ishr (pc := 2) (i := 2) rfl (fun z1 e_z1 => ?_)
  have r_z1 := kw_rng z1
  replace hF := kf_le e_z1 hF
  refine kw_iconst (pc := 3) (i := 3) (v := 1) rfl rfl ?_
  refine kw_iand (pc := 4) (i := 4) rfl (fun z2 e_z2 => ?_)
  have r_z2 := kw_rng z2
  replace hF := kf_le e_z2 hF
  have t_z2 := kw_andI z1 (1 : Int32) z2 e_z2
  first | (replace t_z2 := t_z2 (by omega) (by omega)) | skip
  refine kw_iconst (pc := 5) (i := 5) (v := 1) rfl rfl ?_
  refine kw_icmp_ne (pc := 6) (i := 6) (tgt := 13) rfl rfl (fun c3 => ?_) (fun c3 => ?_)
  · replace hF := kf_n c3 hF
    refine kw_iconst (pc := 13) (i := 9) (v := 0) rfl rfl ?_
    exact kw_ireturn (pc := 14) (i := 10) (ty := .boolean) rfl rfl rfl ⟨rfl, _, rfl, by omega, hF⟩
  · replace hF := kf_p c3 hF
    refine kw_iconst (pc := 9) (i := 7) (v := 1) rfl rfl ?_
    refine kw_goto (pc := 10) (i := 8) (tgt := 14) rfl rfl ?_
    exact kw_ireturn (pc := 14) (i := 10) (ty := .boolean) rfl rfl rfl ⟨rfl, _, rfl, by omega, hF⟩
noncomputable def f_X8_greater (σ : kw_S) (x : Int32) (y : Int32) : Int32 := if y.toInt < x.toInt then (x) else (y)
theorem f_X8_greater_u (σ : kw_S) (x : Int32) (y : Int32) : f_X8_greater σ x y = if y.toInt < x.toInt then (x) else (y) := rfl
abbrev p_X8_greater (T : Int) (σ : kw_S) (x : Int32) (y : Int32) : Option Value → kw_S → Prop := fun vv σ' => σ' = σ ∧ ∃ r : Int32, vv = some (.int r) ∧ r = f_X8_greater σ x y
set_option maxRecDepth 100000 in
set_option maxHeartbeats 4000000 in
theorem c_X8_greater (l : Launch) (T : Int) (hT0 : 0 ≤ T) (hT1 : T ≤ 3000) (σ : kw_S) (hI : kw_I (bM T) σ) (x : Int32) (y : Int32) : kw_Met l 1 KM mX8_greater [.int x, .int y] σ (p_X8_greater T σ x y) := by
  have r_x := kw_rng x
  have r_y := kw_rng y
  have hF := (f_X8_greater_u σ x y).symm
  refine kw_Met.of (by decide) rfl tX8_greater (Nat.le_of_ble_eq_true rfl) ?_
  show kw_AW l 1 kw_E0 KM mX8_greater (p_X8_greater T σ x y) 0 [(0, .int x), (1, .int y)] [] σ
  refine kw_iload_n (pc := 0) (i := 0) (k := 0) (n := 0) rfl rfl rfl ?_
  refine kw_iload_n (pc := 1) (i := 1) (k := 1) (n := 1) rfl rfl rfl ?_
  refine kw_icmp_le (pc := 2) (i := 2) (tgt := 9) rfl rfl (fun c1 => ?_) (fun c1 => ?_)
  · replace hF := kf_nl c1 hF
    refine kw_iload_n (pc := 9) (i := 5) (k := 1) (n := 1) rfl rfl rfl ?_
    exact kw_ireturn (pc := 10) (i := 6) (ty := .int) rfl rfl rfl ⟨rfl, _, rfl, hF⟩
  · replace hF := kf_p c1 hF
    refine kw_iload_n (pc := 5) (i := 3) (k := 0) (n := 0) rfl rfl rfl ?_
    refine kw_goto (pc := 6) (i := 4) (tgt := 10) rfl rfl ?_
    exact kw_ireturn (pc := 10) (i := 6) (ty := .int) rfl rfl rfl ⟨rfl, _, rfl, hF⟩
noncomputable def l_X8_part_0_17 (a1 : Int64) (a3 : Int64) (S : kw_S) : Nat → Int64 → Int64 → Int32 × kw_S
  | 0, _, _ => (0, S)
  | n + 1, x5, x7 => kf_l (lg_cmp x7 (0 : Int64)) fun z2 => if z2.toInt = 0 then (kf_l (a1 / x5) fun z3 => kf_l (a3 / x5) fun z4 => ((1 : Int32), kw_ul (kw_ul S 0 3 z3) 0 4 z4)) else (kf_l (x5 - x5 / x7 * x7) fun z5 => l_X8_part_0_17 a1 a3 S n x7 z5)
theorem l_X8_part_0_17_s (a1 : Int64) (a3 : Int64) (S : kw_S) (n : Nat) (x5 : Int64) (x7 : Int64) : l_X8_part_0_17 a1 a3 S (n + 1) x5 x7 = kf_l (lg_cmp x7 (0 : Int64)) fun z2 => if z2.toInt = 0 then (kf_l (a1 / x5) fun z3 => kf_l (a3 / x5) fun z4 => ((1 : Int32), kw_ul (kw_ul S 0 3 z3) 0 4 z4)) else (kf_l (x5 - x5 / x7 * x7) fun z5 => l_X8_part_0_17 a1 a3 S n x7 z5) := rfl
noncomputable def f_X8_part_0 (σ : kw_S) (up : Int64) (low : Int64) : Int32 × kw_S := kf_l (lg_cmp up (0 : Int64)) fun z1 => if z1.toInt < 0 then (kf_l (-up) fun z6 => l_X8_part_0_17 up low σ (((if 0 ≤ low.toInt then low.toInt else -low.toInt)).toNat + 1) z6 low) else (l_X8_part_0_17 up low σ (((if 0 ≤ low.toInt then low.toInt else -low.toInt)).toNat + 1) up low)
theorem f_X8_part_0_u (σ : kw_S) (up : Int64) (low : Int64) : f_X8_part_0 σ up low = kf_l (lg_cmp up (0 : Int64)) fun z1 => if z1.toInt < 0 then (kf_l (-up) fun z6 => l_X8_part_0_17 up low σ (((if 0 ≤ low.toInt then low.toInt else -low.toInt)).toNat + 1) z6 low) else (l_X8_part_0_17 up low σ (((if 0 ≤ low.toInt then low.toInt else -low.toInt)).toNat + 1) up low) := rfl
abbrev p_X8_part_0 (T : Int) (σ : kw_S) (up : Int64) (low : Int64) : Option Value → kw_S → Prop := fun vv σ' => (kw_I (bM T) σ' ∧ kw_FM [2003, 2004] σ σ') ∧ ∃ r : Int32, vv = some (.int r) ∧ r.toInt = 1 ∧ (r, σ') = f_X8_part_0 σ up low
set_option maxRecDepth 100000 in
set_option maxHeartbeats 4000000 in
theorem c_X8_part_0 (l : Launch) (T : Int) (hT0 : 0 ≤ T) (hT1 : T ≤ 3000) (σ : kw_S) (hI : kw_I (bM T) σ) (up : Int64) (low : Int64) (hp0 : 0 < low.toInt) : kw_Met l 1 KM mX8_part [.ref 0, .long up, .long low] σ (p_X8_part_0 T σ up low) := by
  have hF0 : kw_FM [2003, 2004] σ σ := kw_FM.rf
  have hF := (f_X8_part_0_u σ up low).symm
  have q_1 : (1 : Int32).toInt = 1 := rfl
  refine kw_Met.of (by decide) rfl tX8_part (Nat.le_of_ble_eq_true rfl) ?_
  show kw_AW l 1 kw_E0 KM mX8_part (p_X8_part_0 T σ up low) 0 [(0, .ref 0), (1, .long up), (3, .long low)] [] σ
  refine kw_lload_n (pc := 0) (i := 0) (k := 1) (n := 1) rfl rfl rfl ?_
  refine kw_lconst (pc := 1) (i := 1) (v := 0) rfl rfl ?_
  refine kw_lcmp (pc := 2) (i := 2) rfl (fun z1 e_z1 t_z1 => ?_)
  replace hF := kf_le e_z1 hF
  have lq2 : (0 : Int64).toInt = 0 := rfl
  refine kw_if_ge (pc := 3) (i := 3) (tgt := 11) rfl rfl (fun c3 => ?_) (fun c3 => ?_)
  · replace hF := kf_nl c3 hF
    refine kw_lload_n (pc := 11) (i := 7) (k := 1) (n := 1) rfl rfl rfl ?_
    refine kw_lstore (pc := 12) (i := 8) (n := 5) (lv' := [(5, .long up), (0, .ref 0), (1, .long up), (3, .long low)]) rfl (by decide) rfl ?_
    refine kw_lload_n (pc := 14) (i := 9) (k := 3) (n := 3) rfl rfl rfl ?_
    refine kw_lstore (pc := 15) (i := 10) (n := 7) (lv' := [(7, .long low), (5, .long up), (0, .ref 0), (1, .long up), (3, .long low)]) rfl (by decide) rfl ?_
    have L6 : ∀ (n10 : Nat) (x4 : Int64) (x5 : Int64), (x5.toInt ≠ 0 ∨ x4.toInt ≠ 0) → l_X8_part_0_17 up low σ n10 x5 x4 = (f_X8_part_0 σ up low) → ((if 0 ≤ x4.toInt then x4.toInt else -x4.toInt)).toNat < n10 → kw_AW l 1 kw_E0 KM mX8_part (p_X8_part_0 T σ up low) 17 [(7, .long x4), (5, .long x5), (0, .ref 0), (1, .long up), (3, .long low)] [] σ := by
      intro n10
      induction n10 with
      | zero => intro x4 x5 v8 hF m9; exact absurd m9 (Nat.not_lt_zero _)
      | succ n10 ih7 =>
        intro x4 x5 v8 hF m9
        replace hF := kf_st (l_X8_part_0_17_s _ _ _ _ _ _) hF
        refine kw_lload (pc := 17) (i := 11) (k := 0) (n := 7) rfl rfl ?_
        refine kw_lconst (pc := 19) (i := 12) (v := 0) rfl rfl ?_
        refine kw_lcmp (pc := 20) (i := 13) rfl (fun z11 e_z11 t_z11 => ?_)
        replace hF := kf_le e_z11 hF
        have lq12 : (0 : Int64).toInt = 0 := rfl
        refine kw_if_eq (pc := 21) (i := 14) (tgt := 42) rfl rfl (fun c13 => ?_) (fun c13 => ?_)
        · replace hF := kf_p c13 hF
          refine kw_aload_n (pc := 42) (i := 24) (k := 2) (n := 0) rfl rfl rfl ?_
          refine kw_lload_n (pc := 43) (i := 25) (k := 3) (n := 1) rfl rfl rfl ?_
          refine kw_lload (pc := 44) (i := 26) (k := 1) (n := 5) rfl rfl ?_
          refine kw_ldiv (pc := 46) (i := 27) rfl (by omega) (fun z14 e_z14 => ?_)
          replace hF := kf_le e_z14 hF
          refine kw_putl (pc := 47) (i := 28) (z := 0) rfl rfl rfl lpX8_90 ?_
          have I15 : kw_I (bM T) (kw_ul σ 0 3 z14) := kw_I_ul hI _ _ _
          have F16 : kw_FM [2003, 2004] σ (kw_ul σ 0 3 z14) := kw_FM_ul0 hF0 (by decide)
          refine kw_aload_n (pc := 50) (i := 29) (k := 2) (n := 0) rfl rfl rfl ?_
          refine kw_lload_n (pc := 51) (i := 30) (k := 4) (n := 3) rfl rfl rfl ?_
          refine kw_lload (pc := 52) (i := 31) (k := 1) (n := 5) rfl rfl ?_
          refine kw_ldiv (pc := 54) (i := 32) rfl (by omega) (fun z17 e_z17 => ?_)
          replace hF := kf_le e_z17 hF
          refine kw_putl (pc := 55) (i := 33) (z := 0) rfl rfl rfl lpX8_13 ?_
          have I18 : kw_I (bM T) (kw_ul (kw_ul σ 0 3 z14) 0 4 z17) := kw_I_ul I15 _ _ _
          have F19 : kw_FM [2003, 2004] σ (kw_ul (kw_ul σ 0 3 z14) 0 4 z17) := kw_FM_ul0 F16 (by decide)
          refine kw_iconst (pc := 58) (i := 34) (v := 1) rfl rfl ?_
          exact kw_ireturn (pc := 59) (i := 35) (ty := .int) rfl rfl rfl ⟨⟨I18, F19⟩, _, rfl, by omega, hF⟩
        · replace hF := kf_n c13 hF
          refine kw_lload (pc := 24) (i := 15) (k := 1) (n := 5) rfl rfl ?_
          refine kw_lload (pc := 26) (i := 16) (k := 0) (n := 7) rfl rfl ?_
          refine kw_lrem (pc := 28) (i := 17) rfl (by omega) (fun z20 e_z20 => ?_)
          replace hF := kf_le e_z20 hF
          have t_z20 := kw_lremI x5 x4 z20 e_z20
          refine kw_lstore (pc := 29) (i := 18) (n := 9) (lv' := [(9, .long z20), (7, .long x4), (5, .long x5), (0, .ref 0), (1, .long up), (3, .long low)]) rfl (by decide) rfl ?_
          refine kw_lload (pc := 31) (i := 19) (k := 1) (n := 7) rfl rfl ?_
          refine kw_lstore (pc := 33) (i := 20) (n := 5) (lv' := [(5, .long x4), (9, .long z20), (7, .long x4), (0, .ref 0), (1, .long up), (3, .long low)]) rfl (by decide) rfl ?_
          refine kw_lload (pc := 35) (i := 21) (k := 1) (n := 9) rfl rfl ?_
          refine kw_lstore (pc := 37) (i := 22) (n := 7) (lv' := [(7, .long z20), (5, .long x4), (9, .long z20), (0, .ref 0), (1, .long up), (3, .long low)]) rfl (by decide) rfl ?_
          refine kw_goto (pc := 39) (i := 23) (tgt := 17) rfl rfl ?_
          refine kw_sub (lv' := [(7, .long z20), (5, .long x4), (0, .ref 0), (1, .long up), (3, .long low)]) [0, 1, 3, 4, 5] rfl ?_
          exact ih7 z20 x4 (by omega) hF (by omega)
    exact L6 _ low up (by omega) hF (Nat.lt_succ_self _)
  · replace hF := kf_p c3 hF
    refine kw_lload_n (pc := 6) (i := 4) (k := 1) (n := 1) rfl rfl rfl ?_
    refine kw_lneg (pc := 7) (i := 5) rfl (fun z21 e_z21 => ?_)
    replace hF := kf_le e_z21 hF
    refine kw_goto (pc := 8) (i := 6) (tgt := 12) rfl rfl ?_
    refine kw_lstore (pc := 12) (i := 8) (n := 5) (lv' := [(5, .long z21), (0, .ref 0), (1, .long up), (3, .long low)]) rfl (by decide) rfl ?_
    refine kw_lload_n (pc := 14) (i := 9) (k := 3) (n := 3) rfl rfl rfl ?_
    refine kw_lstore (pc := 15) (i := 10) (n := 7) (lv' := [(7, .long low), (5, .long z21), (0, .ref 0), (1, .long up), (3, .long low)]) rfl (by decide) rfl ?_
    have L24 : ∀ (n28 : Nat) (x22 : Int64) (x23 : Int64), (x23.toInt ≠ 0 ∨ x22.toInt ≠ 0) → l_X8_part_0_17 up low σ n28 x23 x22 = (f_X8_part_0 σ up low) → ((if 0 ≤ x22.toInt then x22.toInt else -x22.toInt)).toNat < n28 → kw_AW l 1 kw_E0 KM mX8_part (p_X8_part_0 T σ up low) 17 [(7, .long x22), (5, .long x23), (0, .ref 0), (1, .long up), (3, .long low)] [] σ := by
      intro n28
      induction n28 with
      | zero => intro x22 x23 v26 hF m27; exact absurd m27 (Nat.not_lt_zero _)
      | succ n28 ih25 =>
        intro x22 x23 v26 hF m27
        replace hF := kf_st (l_X8_part_0_17_s _ _ _ _ _ _) hF
        refine kw_lload (pc := 17) (i := 11) (k := 0) (n := 7) rfl rfl ?_
        refine kw_lconst (pc := 19) (i := 12) (v := 0) rfl rfl ?_
        refine kw_lcmp (pc := 20) (i := 13) rfl (fun z29 e_z29 t_z29 => ?_)
        replace hF := kf_le e_z29 hF
        have lq30 : (0 : Int64).toInt = 0 := rfl
        refine kw_if_eq (pc := 21) (i := 14) (tgt := 42) rfl rfl (fun c31 => ?_) (fun c31 => ?_)
        · replace hF := kf_p c31 hF
          refine kw_aload_n (pc := 42) (i := 24) (k := 2) (n := 0) rfl rfl rfl ?_
          refine kw_lload_n (pc := 43) (i := 25) (k := 3) (n := 1) rfl rfl rfl ?_
          refine kw_lload (pc := 44) (i := 26) (k := 1) (n := 5) rfl rfl ?_
          refine kw_ldiv (pc := 46) (i := 27) rfl (by omega) (fun z32 e_z32 => ?_)
          replace hF := kf_le e_z32 hF
          refine kw_putl (pc := 47) (i := 28) (z := 0) rfl rfl rfl lpX8_90 ?_
          have I33 : kw_I (bM T) (kw_ul σ 0 3 z32) := kw_I_ul hI _ _ _
          have F34 : kw_FM [2003, 2004] σ (kw_ul σ 0 3 z32) := kw_FM_ul0 hF0 (by decide)
          refine kw_aload_n (pc := 50) (i := 29) (k := 2) (n := 0) rfl rfl rfl ?_
          refine kw_lload_n (pc := 51) (i := 30) (k := 4) (n := 3) rfl rfl rfl ?_
          refine kw_lload (pc := 52) (i := 31) (k := 1) (n := 5) rfl rfl ?_
          refine kw_ldiv (pc := 54) (i := 32) rfl (by omega) (fun z35 e_z35 => ?_)
          replace hF := kf_le e_z35 hF
          refine kw_putl (pc := 55) (i := 33) (z := 0) rfl rfl rfl lpX8_13 ?_
          have I36 : kw_I (bM T) (kw_ul (kw_ul σ 0 3 z32) 0 4 z35) := kw_I_ul I33 _ _ _
          have F37 : kw_FM [2003, 2004] σ (kw_ul (kw_ul σ 0 3 z32) 0 4 z35) := kw_FM_ul0 F34 (by decide)
          refine kw_iconst (pc := 58) (i := 34) (v := 1) rfl rfl ?_
          exact kw_ireturn (pc := 59) (i := 35) (ty := .int) rfl rfl rfl ⟨⟨I36, F37⟩, _, rfl, by omega, hF⟩
        · replace hF := kf_n c31 hF
          refine kw_lload (pc := 24) (i := 15) (k := 1) (n := 5) rfl rfl ?_
          refine kw_lload (pc := 26) (i := 16) (k := 0) (n := 7) rfl rfl ?_
          refine kw_lrem (pc := 28) (i := 17) rfl (by omega) (fun z38 e_z38 => ?_)
          replace hF := kf_le e_z38 hF
          have t_z38 := kw_lremI x23 x22 z38 e_z38
          refine kw_lstore (pc := 29) (i := 18) (n := 9) (lv' := [(9, .long z38), (7, .long x22), (5, .long x23), (0, .ref 0), (1, .long up), (3, .long low)]) rfl (by decide) rfl ?_
          refine kw_lload (pc := 31) (i := 19) (k := 1) (n := 7) rfl rfl ?_
          refine kw_lstore (pc := 33) (i := 20) (n := 5) (lv' := [(5, .long x22), (9, .long z38), (7, .long x22), (0, .ref 0), (1, .long up), (3, .long low)]) rfl (by decide) rfl ?_
          refine kw_lload (pc := 35) (i := 21) (k := 1) (n := 9) rfl rfl ?_
          refine kw_lstore (pc := 37) (i := 22) (n := 7) (lv' := [(7, .long z38), (5, .long x22), (9, .long z38), (0, .ref 0), (1, .long up), (3, .long low)]) rfl (by decide) rfl ?_
          refine kw_goto (pc := 39) (i := 23) (tgt := 17) rfl rfl ?_
          refine kw_sub (lv' := [(7, .long z38), (5, .long x22), (0, .ref 0), (1, .long up), (3, .long low)]) [0, 1, 3, 4, 5] rfl ?_
          exact ih25 z38 x22 (by omega) hF (by omega)
    exact L24 _ low z21 (by omega) hF (Nat.lt_succ_self _)
noncomputable def f_X8_isRow (σ : kw_S) (a : Int32) : Int32 := kf_l (f_X8_in σ a (0 : Int32) (5 : Int32)) fun z1 => z1
theorem f_X8_isRow_u (σ : kw_S) (a : Int32) : f_X8_isRow σ a = kf_l (f_X8_in σ a (0 : Int32) (5 : Int32)) fun z1 => z1 := rfl
abbrev p_X8_isRow (T : Int) (σ : kw_S) (a : Int32) : Option Value → kw_S → Prop := fun vv σ' => σ' = σ ∧ ∃ r : Int32, vv = some (.int r) ∧ (r.toInt = 0 ∨ r.toInt = 1) ∧ (r.toInt = 0 ∨ 0 ≤ a.toInt ∧ a.toInt ≤ 5) ∧ (r.toInt = 1 ∨ a.toInt < 0 ∨ 5 < a.toInt) ∧ r = f_X8_isRow σ a
set_option maxRecDepth 100000 in
set_option maxHeartbeats 4000000 in
theorem c_X8_isRow (l : Launch) (T : Int) (hT0 : 0 ≤ T) (hT1 : T ≤ 3000) (σ : kw_S) (hI : kw_I (bM T) σ) (a : Int32) : kw_Met l 2 KM mX8_isRow [.int a] σ (p_X8_isRow T σ a) := by
  have r_a := kw_rng a
  have hF := (f_X8_isRow_u σ a).symm
  have q_0 : (0 : Int32).toInt = 0 := rfl
  have q_5 : (5 : Int32).toInt = 5 := rfl
  refine kw_Met.of (by decide) rfl tX8_isRow (Nat.le_of_ble_eq_true rfl) ?_
  show kw_AW l 2 kw_E0 KM mX8_isRow (p_X8_isRow T σ a) 0 [(0, .int a)] [] σ
  refine kw_iload_n (pc := 0) (i := 0) (k := 0) (n := 0) rfl rfl rfl ?_
  refine kw_iconst (pc := 1) (i := 1) (v := 0) rfl rfl ?_
  refine kw_iconst (pc := 2) (i := 2) (v := 5) rfl rfl ?_
  refine kw_callS (pc := 3) (i := 3) (Y := mX8_in) (As := [.int a, .int 0, .int 5]) (st := []) kw_hE rfl lsX8_93 arX8_in (c_X8_in l T hT0 hT1 σ hI a 0 5 ) (by decide) (Nat.le_of_ble_eq_true rfl) rfl (fun v S2 p1 => ?_)
  obtain ⟨e8, z7, rfl, f3, f4, f5, ef6⟩ := p1
  rw [e8]
  replace hF := kf_le ef6 hF
  have r_z7 := kw_rng z7
  show kw_AW l 2 kw_E0 KM mX8_isRow (p_X8_isRow T σ a) 6 [(0, .int a)] [.int z7] σ
  exact kw_ireturn (pc := 6) (i := 4) (ty := .boolean) rfl rfl (kw_nb (by omega)) ⟨rfl, _, rfl, by omega, by omega, by omega, hF⟩
noncomputable def f_X8_isText (σ : kw_S) (a : Int32) : Int32 := kf_l (f_X8_in σ a (0 : Int32) (3 : Int32)) fun z1 => z1
theorem f_X8_isText_u (σ : kw_S) (a : Int32) : f_X8_isText σ a = kf_l (f_X8_in σ a (0 : Int32) (3 : Int32)) fun z1 => z1 := rfl
abbrev p_X8_isText (T : Int) (σ : kw_S) (a : Int32) : Option Value → kw_S → Prop := fun vv σ' => σ' = σ ∧ ∃ r : Int32, vv = some (.int r) ∧ (r.toInt = 0 ∨ r.toInt = 1) ∧ (r.toInt = 0 ∨ 0 ≤ a.toInt ∧ a.toInt ≤ 3) ∧ (r.toInt = 1 ∨ a.toInt < 0 ∨ 3 < a.toInt) ∧ r = f_X8_isText σ a
set_option maxRecDepth 100000 in
set_option maxHeartbeats 4000000 in
theorem c_X8_isText (l : Launch) (T : Int) (hT0 : 0 ≤ T) (hT1 : T ≤ 3000) (σ : kw_S) (hI : kw_I (bM T) σ) (a : Int32) : kw_Met l 2 KM mX8_isText [.int a] σ (p_X8_isText T σ a) := by
  have r_a := kw_rng a
  have hF := (f_X8_isText_u σ a).symm
  have q_0 : (0 : Int32).toInt = 0 := rfl
  have q_3 : (3 : Int32).toInt = 3 := rfl
  refine kw_Met.of (by decide) rfl tX8_isText (Nat.le_of_ble_eq_true rfl) ?_
  show kw_AW l 2 kw_E0 KM mX8_isText (p_X8_isText T σ a) 0 [(0, .int a)] [] σ
  refine kw_iload_n (pc := 0) (i := 0) (k := 0) (n := 0) rfl rfl rfl ?_
  refine kw_iconst (pc := 1) (i := 1) (v := 0) rfl rfl ?_
  refine kw_iconst (pc := 2) (i := 2) (v := 3) rfl rfl ?_
  refine kw_callS (pc := 3) (i := 3) (Y := mX8_in) (As := [.int a, .int 0, .int 3]) (st := []) kw_hE rfl lsX8_93 arX8_in (c_X8_in l T hT0 hT1 σ hI a 0 3 ) (by decide) (Nat.le_of_ble_eq_true rfl) rfl (fun v S2 p1 => ?_)
  obtain ⟨e8, z7, rfl, f3, f4, f5, ef6⟩ := p1
  rw [e8]
  replace hF := kf_le ef6 hF
  have r_z7 := kw_rng z7
  show kw_AW l 2 kw_E0 KM mX8_isText (p_X8_isText T σ a) 6 [(0, .int a)] [.int z7] σ
  exact kw_ireturn (pc := 6) (i := 4) (ty := .boolean) rfl rfl (kw_nb (by omega)) ⟨rfl, _, rfl, by omega, by omega, by omega, hF⟩
noncomputable def f_X8_askedRow_0 (σ : kw_S) (a : Int32) : Int32 × kw_S := kf_l (f_X8_isRow σ a) fun z1 => if z1.toInt = 0 then ((((-1) : Int32), σ)) else (kf_l (σ.1 2 a.toNatClampNeg) fun z2 => if z2.toInt < 0 then (kf_b (f_X8_meet_0 σ (1 : Int32)) fun z3 S4 => (z3, S4)) else (((0 : Int32), σ)))
theorem f_X8_askedRow_0_u (σ : kw_S) (a : Int32) : f_X8_askedRow_0 σ a = kf_l (f_X8_isRow σ a) fun z1 => if z1.toInt = 0 then ((((-1) : Int32), σ)) else (kf_l (σ.1 2 a.toNatClampNeg) fun z2 => if z2.toInt < 0 then (kf_b (f_X8_meet_0 σ (1 : Int32)) fun z3 S4 => (z3, S4)) else (((0 : Int32), σ))) := rfl
abbrev p_X8_askedRow_0 (T : Int) (σ : kw_S) (a : Int32) : Option Value → kw_S → Prop := fun vv σ' => (kw_I (bM T) σ' ∧ kw_FM [1, 1000] σ σ') ∧ ∃ r : Int32, vv = some (.int r) ∧ (r.toInt < 0 ∨ 0 ≤ a.toInt ∧ a.toInt ≤ 5) ∧ (r, σ') = f_X8_askedRow_0 σ a
set_option maxRecDepth 100000 in
set_option maxHeartbeats 4000000 in
theorem c_X8_askedRow_0 (l : Launch) (T : Int) (hT0 : 0 ≤ T) (hT1 : T ≤ 3000) (σ : kw_S) (hI : kw_I (bM T) σ) (a : Int32) : kw_Met l 3 KM mX8_askedRow [.ref 0, .int a] σ (p_X8_askedRow_0 T σ a) := by
  have r_a := kw_rng a
  have hF0 : kw_FM [1, 1000] σ σ := kw_FM.rf
  have hF := (f_X8_askedRow_0_u σ a).symm
  have q_m1 : (-1 : Int32).toInt = -1 := rfl
  have q_0 : (0 : Int32).toInt = 0 := rfl
  have q_1 : (1 : Int32).toInt = 1 := rfl
  refine kw_Met.of (by decide) rfl tX8_askedRow (Nat.le_of_ble_eq_true rfl) ?_
  show kw_AW l 3 kw_E0 KM mX8_askedRow (p_X8_askedRow_0 T σ a) 0 [(0, .ref 0), (1, .int a)] [] σ
  refine kw_iload_n (pc := 0) (i := 0) (k := 1) (n := 1) rfl rfl rfl ?_
  refine kw_callS (pc := 1) (i := 1) (Y := mX8_isRow) (As := [.int a]) (st := []) kw_hE rfl lsX8_97 arX8_isRow (c_X8_isRow l T hT0 hT1 σ hI a ) (by decide) (Nat.le_of_ble_eq_true rfl) rfl (fun v S2 p1 => ?_)
  obtain ⟨e8, z7, rfl, f3, f4, f5, ef6⟩ := p1
  rw [e8]
  replace hF := kf_le ef6 hF
  have r_z7 := kw_rng z7
  show kw_AW l 3 kw_E0 KM mX8_askedRow (p_X8_askedRow_0 T σ a) 4 [(0, .ref 0), (1, .int a)] [.int z7] σ
  refine kw_if_ne (pc := 4) (i := 2) (tgt := 11) rfl rfl (fun c9 => ?_) (fun c9 => ?_)
  · replace hF := kf_n c9 hF
    refine kw_aload_n (pc := 11) (i := 5) (k := 0) (n := 0) rfl rfl rfl ?_
    refine kw_get (pc := 12) (i := 6) (v := .ref 2) rfl rfl rfl lkX8_17 (fun _ => rfl) ?_
    refine kw_iload_n (pc := 15) (i := 7) (k := 1) (n := 1) rfl rfl rfl ?_
    refine kw_iald (pc := 16) (i := 8) (n := 6) rfl rfl (by omega) (by omega) (fun z10 e_z10 => ?_)
    replace hF := kf_le e_z10 hF
    have t_z10 := congrArg Int32.toInt e_z10
    have b_z10 : -9 ≤ z10.toInt ∧ z10.toInt ≤ 40 := by rw [e_z10]; exact hI 2 _
    refine kw_if_ge (pc := 17) (i := 9) (tgt := 28) rfl rfl (fun c11 => ?_) (fun c11 => ?_)
    · replace hF := kf_nl c11 hF
      refine kw_iconst (pc := 28) (i := 14) (v := 0) rfl rfl ?_
      exact kw_ireturn (pc := 29) (i := 15) (ty := .int) rfl rfl rfl ⟨⟨hI, hF0⟩, _, rfl, by omega, hF⟩
    · replace hF := kf_p c11 hF
      refine kw_aload_n (pc := 20) (i := 10) (k := 0) (n := 0) rfl rfl rfl ?_
      refine kw_iconst (pc := 21) (i := 11) (v := 1) rfl rfl ?_
      refine kw_callV (pc := 22) (i := 12) (Y := mX8_meet) (a := 0) (As := [.int 1]) (st := []) kw_hE rfl rfl lvX8_101 arX8_meet (c_X8_meet_0 l T hT0 hT1 σ hI 1 (by first | omega | decide) (by first | omega | decide)) (by decide) (Nat.le_of_ble_eq_true rfl) rfl (fun v S13 p12 => ?_)
      obtain ⟨⟨I17, F18⟩, z16, rfl, f14, ef15⟩ := p12
      have F19 : kw_FM [1, 1000] σ S13 := kw_FM.tr hF0 F18 (by decide)
      have w_20 : (S13.1 0 27).toInt = (σ.1 0 27).toInt := congrArg Int32.toInt (kw_FM.at0 (j := 27) F18 (by decide))
      replace hF := kf_be ef15 hF
      have r_z16 := kw_rng z16
      show kw_AW l 3 kw_E0 KM mX8_askedRow (p_X8_askedRow_0 T σ a) 25 [(0, .ref 0), (1, .int a)] [.int z16] S13
      refine kw_goto (pc := 25) (i := 13) (tgt := 29) rfl rfl ?_
      exact kw_ireturn (pc := 29) (i := 15) (ty := .int) rfl rfl rfl ⟨⟨I17, F19⟩, _, rfl, by omega, hF⟩
  · replace hF := kf_p c9 hF
    refine kw_iconst (pc := 7) (i := 3) (v := (-1)) rfl rfl ?_
    refine kw_goto (pc := 8) (i := 4) (tgt := 29) rfl rfl ?_
    exact kw_ireturn (pc := 29) (i := 15) (ty := .int) rfl rfl rfl ⟨⟨hI, hF0⟩, _, rfl, by omega, hF⟩
noncomputable def f_X8_askedText_0 (σ : kw_S) (a : Int32) : Int32 × kw_S := kf_l (f_X8_isText σ a) fun z1 => if z1.toInt = 0 then ((((-1) : Int32), σ)) else (kf_l (σ.1 5 a.toNatClampNeg) fun z2 => if z2.toInt < 0 then (kf_b (f_X8_meet_0 σ (1 : Int32)) fun z3 S4 => (z3, S4)) else (((0 : Int32), σ)))
theorem f_X8_askedText_0_u (σ : kw_S) (a : Int32) : f_X8_askedText_0 σ a = kf_l (f_X8_isText σ a) fun z1 => if z1.toInt = 0 then ((((-1) : Int32), σ)) else (kf_l (σ.1 5 a.toNatClampNeg) fun z2 => if z2.toInt < 0 then (kf_b (f_X8_meet_0 σ (1 : Int32)) fun z3 S4 => (z3, S4)) else (((0 : Int32), σ))) := rfl
abbrev p_X8_askedText_0 (T : Int) (σ : kw_S) (a : Int32) : Option Value → kw_S → Prop := fun vv σ' => (kw_I (bM T) σ' ∧ kw_FM [1, 1000] σ σ') ∧ ∃ r : Int32, vv = some (.int r) ∧ (r.toInt < 0 ∨ 0 ≤ a.toInt ∧ a.toInt ≤ 3) ∧ (r, σ') = f_X8_askedText_0 σ a
set_option maxRecDepth 100000 in
set_option maxHeartbeats 4000000 in
theorem c_X8_askedText_0 (l : Launch) (T : Int) (hT0 : 0 ≤ T) (hT1 : T ≤ 3000) (σ : kw_S) (hI : kw_I (bM T) σ) (a : Int32) : kw_Met l 3 KM mX8_askedText [.ref 0, .int a] σ (p_X8_askedText_0 T σ a) := by
  have r_a := kw_rng a
  have hF0 : kw_FM [1, 1000] σ σ := kw_FM.rf
  have hF := (f_X8_askedText_0_u σ a).symm
  have q_m1 : (-1 : Int32).toInt = -1 := rfl
  have q_0 : (0 : Int32).toInt = 0 := rfl
  have q_1 : (1 : Int32).toInt = 1 := rfl
  refine kw_Met.of (by decide) rfl tX8_askedText (Nat.le_of_ble_eq_true rfl) ?_
  show kw_AW l 3 kw_E0 KM mX8_askedText (p_X8_askedText_0 T σ a) 0 [(0, .ref 0), (1, .int a)] [] σ
  refine kw_iload_n (pc := 0) (i := 0) (k := 1) (n := 1) rfl rfl rfl ?_
  refine kw_callS (pc := 1) (i := 1) (Y := mX8_isText) (As := [.int a]) (st := []) kw_hE rfl lsX8_105 arX8_isText (c_X8_isText l T hT0 hT1 σ hI a ) (by decide) (Nat.le_of_ble_eq_true rfl) rfl (fun v S2 p1 => ?_)
  obtain ⟨e8, z7, rfl, f3, f4, f5, ef6⟩ := p1
  rw [e8]
  replace hF := kf_le ef6 hF
  have r_z7 := kw_rng z7
  show kw_AW l 3 kw_E0 KM mX8_askedText (p_X8_askedText_0 T σ a) 4 [(0, .ref 0), (1, .int a)] [.int z7] σ
  refine kw_if_ne (pc := 4) (i := 2) (tgt := 11) rfl rfl (fun c9 => ?_) (fun c9 => ?_)
  · replace hF := kf_n c9 hF
    refine kw_aload_n (pc := 11) (i := 5) (k := 0) (n := 0) rfl rfl rfl ?_
    refine kw_get (pc := 12) (i := 6) (v := .ref 5) rfl rfl rfl lkX8_26 (fun _ => rfl) ?_
    refine kw_iload_n (pc := 15) (i := 7) (k := 1) (n := 1) rfl rfl rfl ?_
    refine kw_iald (pc := 16) (i := 8) (n := 4) rfl rfl (by omega) (by omega) (fun z10 e_z10 => ?_)
    replace hF := kf_le e_z10 hF
    have t_z10 := congrArg Int32.toInt e_z10
    have b_z10 : -9 ≤ z10.toInt ∧ z10.toInt ≤ 60 := by rw [e_z10]; exact hI 5 _
    refine kw_if_ge (pc := 17) (i := 9) (tgt := 28) rfl rfl (fun c11 => ?_) (fun c11 => ?_)
    · replace hF := kf_nl c11 hF
      refine kw_iconst (pc := 28) (i := 14) (v := 0) rfl rfl ?_
      exact kw_ireturn (pc := 29) (i := 15) (ty := .int) rfl rfl rfl ⟨⟨hI, hF0⟩, _, rfl, by omega, hF⟩
    · replace hF := kf_p c11 hF
      refine kw_aload_n (pc := 20) (i := 10) (k := 0) (n := 0) rfl rfl rfl ?_
      refine kw_iconst (pc := 21) (i := 11) (v := 1) rfl rfl ?_
      refine kw_callV (pc := 22) (i := 12) (Y := mX8_meet) (a := 0) (As := [.int 1]) (st := []) kw_hE rfl rfl lvX8_101 arX8_meet (c_X8_meet_0 l T hT0 hT1 σ hI 1 (by first | omega | decide) (by first | omega | decide)) (by decide) (Nat.le_of_ble_eq_true rfl) rfl (fun v S13 p12 => ?_)
      obtain ⟨⟨I17, F18⟩, z16, rfl, f14, ef15⟩ := p12
      have F19 : kw_FM [1, 1000] σ S13 := kw_FM.tr hF0 F18 (by decide)
      have w_20 : (S13.1 0 27).toInt = (σ.1 0 27).toInt := congrArg Int32.toInt (kw_FM.at0 (j := 27) F18 (by decide))
      replace hF := kf_be ef15 hF
      have r_z16 := kw_rng z16
      show kw_AW l 3 kw_E0 KM mX8_askedText (p_X8_askedText_0 T σ a) 25 [(0, .ref 0), (1, .int a)] [.int z16] S13
      refine kw_goto (pc := 25) (i := 13) (tgt := 29) rfl rfl ?_
      exact kw_ireturn (pc := 29) (i := 15) (ty := .int) rfl rfl rfl ⟨⟨I17, F19⟩, _, rfl, by omega, hF⟩
  · replace hF := kf_p c9 hF
    refine kw_iconst (pc := 7) (i := 3) (v := (-1)) rfl rfl ?_
    refine kw_goto (pc := 8) (i := 4) (tgt := 29) rfl rfl ?_
    exact kw_ireturn (pc := 29) (i := 15) (ty := .int) rfl rfl rfl ⟨⟨hI, hF0⟩, _, rfl, by omega, hF⟩
noncomputable def f_X8_rowAt_0 (σ : kw_S) (a : Int32) (i : Int32) : Int32 := kf_l ((40 : Int32) * a) fun z1 => kf_l (z1 + i) fun z2 => kf_l (σ.1 3 z2.toNatClampNeg) fun z3 => z3
theorem f_X8_rowAt_0_u (σ : kw_S) (a : Int32) (i : Int32) : f_X8_rowAt_0 σ a i = kf_l ((40 : Int32) * a) fun z1 => kf_l (z1 + i) fun z2 => kf_l (σ.1 3 z2.toNatClampNeg) fun z3 => z3 := rfl
abbrev p_X8_rowAt_0 (T : Int) (σ : kw_S) (a : Int32) (i : Int32) : Option Value → kw_S → Prop := fun vv σ' => σ' = σ ∧ ∃ r : Int32, vv = some (.int r) ∧ r = f_X8_rowAt_0 σ a i
set_option maxRecDepth 100000 in
set_option maxHeartbeats 4000000 in
theorem c_X8_rowAt_0 (l : Launch) (T : Int) (hT0 : 0 ≤ T) (hT1 : T ≤ 3000) (σ : kw_S) (hI : kw_I (bM T) σ) (a : Int32) (i : Int32) (hp0 : 0 ≤ a.toInt) (hp1 : a.toInt ≤ 5) (hp2 : 0 ≤ i.toInt) (hp3 : i.toInt < 40) : kw_Met l 1 KM mX8_rowAt [.ref 0, .int a, .int i] σ (p_X8_rowAt_0 T σ a i) := by
  have r_a := kw_rng a
  have r_i := kw_rng i
  have hF := (f_X8_rowAt_0_u σ a i).symm
  have q_40 : (40 : Int32).toInt = 40 := rfl
  refine kw_Met.of (by decide) rfl tX8_rowAt (Nat.le_of_ble_eq_true rfl) ?_
  show kw_AW l 1 kw_E0 KM mX8_rowAt (p_X8_rowAt_0 T σ a i) 0 [(0, .ref 0), (1, .int a), (2, .int i)] [] σ
  refine kw_aload_n (pc := 0) (i := 0) (k := 0) (n := 0) rfl rfl rfl ?_
  refine kw_get (pc := 1) (i := 1) (v := .ref 3) rfl rfl rfl lkX8_20 (fun _ => rfl) ?_
  refine kw_bipush (pc := 4) (i := 2) (v := 40) rfl rfl ?_
  refine kw_iload_n (pc := 6) (i := 3) (k := 1) (n := 1) rfl rfl rfl ?_
  refine kw_imul (pc := 7) (i := 4) rfl (fun z1 e_z1 t_z1 => ?_)
  replace hF := kf_le e_z1 hF
  rw [show (40 : Int32).toInt = 40 from rfl] at t_z1
  first | (have u_z1 : z1.toInt = 40 * a.toInt := (by omega); clear t_z1) | skip
  refine kw_iload_n (pc := 8) (i := 5) (k := 2) (n := 2) rfl rfl rfl ?_
  refine kw_iadd (pc := 9) (i := 6) rfl (fun z2 e_z2 t_z2 => ?_)
  replace hF := kf_le e_z2 hF
  first | (have u_z2 : z2.toInt = z1.toInt + i.toInt := (by omega); clear t_z2) | skip
  refine kw_iald (pc := 10) (i := 7) (n := 240) rfl rfl (by omega) (by omega) (fun z3 e_z3 => ?_)
  replace hF := kf_le e_z3 hF
  have t_z3 := congrArg Int32.toInt e_z3
  have r_z3 := kw_rng z3
  exact kw_ireturn (pc := 11) (i := 8) (ty := .int) rfl rfl rfl ⟨rfl, _, rfl, hF⟩
noncomputable def f_X8_setRow_0 (σ : kw_S) (a : Int32) (i : Int32) (v : Int32) : kw_S := kf_l ((40 : Int32) * a) fun z1 => kf_l (z1 + i) fun z2 => kw_ui σ 3 z2.toNatClampNeg v
theorem f_X8_setRow_0_u (σ : kw_S) (a : Int32) (i : Int32) (v : Int32) : f_X8_setRow_0 σ a i v = kf_l ((40 : Int32) * a) fun z1 => kf_l (z1 + i) fun z2 => kw_ui σ 3 z2.toNatClampNeg v := rfl
abbrev p_X8_setRow_0 (T : Int) (σ : kw_S) (a : Int32) (i : Int32) (v : Int32) : Option Value → kw_S → Prop := fun vv σ' => (kw_I (bM T) σ' ∧ kw_FM [3] σ σ') ∧ vv = none ∧ σ' = f_X8_setRow_0 σ a i v
set_option maxRecDepth 100000 in
set_option maxHeartbeats 4000000 in
theorem c_X8_setRow_0 (l : Launch) (T : Int) (hT0 : 0 ≤ T) (hT1 : T ≤ 3000) (σ : kw_S) (hI : kw_I (bM T) σ) (a : Int32) (i : Int32) (v : Int32) (hp0 : 0 ≤ a.toInt) (hp1 : a.toInt ≤ 5) (hp2 : 0 ≤ i.toInt) (hp3 : i.toInt < 40) : kw_Met l 1 KM mX8_setRow [.ref 0, .int a, .int i, .int v] σ (p_X8_setRow_0 T σ a i v) := by
  have r_a := kw_rng a
  have r_i := kw_rng i
  have r_v := kw_rng v
  have hF0 : kw_FM [3] σ σ := kw_FM.rf
  have hF := (f_X8_setRow_0_u σ a i v).symm
  have q_40 : (40 : Int32).toInt = 40 := rfl
  refine kw_Met.of (by decide) rfl tX8_setRow (Nat.le_of_ble_eq_true rfl) ?_
  show kw_AW l 1 kw_E0 KM mX8_setRow (p_X8_setRow_0 T σ a i v) 0 [(0, .ref 0), (1, .int a), (2, .int i), (3, .int v)] [] σ
  refine kw_aload_n (pc := 0) (i := 0) (k := 0) (n := 0) rfl rfl rfl ?_
  refine kw_get (pc := 1) (i := 1) (v := .ref 3) rfl rfl rfl lkX8_20 (fun _ => rfl) ?_
  refine kw_bipush (pc := 4) (i := 2) (v := 40) rfl rfl ?_
  refine kw_iload_n (pc := 6) (i := 3) (k := 1) (n := 1) rfl rfl rfl ?_
  refine kw_imul (pc := 7) (i := 4) rfl (fun z1 e_z1 t_z1 => ?_)
  replace hF := kf_le e_z1 hF
  rw [show (40 : Int32).toInt = 40 from rfl] at t_z1
  first | (have u_z1 : z1.toInt = 40 * a.toInt := (by omega); clear t_z1) | skip
  refine kw_iload_n (pc := 8) (i := 5) (k := 2) (n := 2) rfl rfl rfl ?_
  refine kw_iadd (pc := 9) (i := 6) rfl (fun z2 e_z2 t_z2 => ?_)
  replace hF := kf_le e_z2 hF
  first | (have u_z2 : z2.toInt = z1.toInt + i.toInt := (by omega); clear t_z2) | skip
  refine kw_iload_n (pc := 10) (i := 7) (k := 3) (n := 3) rfl rfl rfl ?_
  refine kw_iast (pc := 11) (i := 8) (n := 240) rfl rfl (by omega) (by omega) ?_
  have I3 : kw_I (bM T) (kw_ui σ 3 z2.toNatClampNeg v) := kw_I_ui hI (kw_rng v).1 (Int.le_of_lt_add_one (kw_rng v).2)
  have F4 : kw_FM [3] σ (kw_ui σ 3 z2.toNatClampNeg v) := kw_FM_ui hF0 (by decide) (by decide)
  exact kw_return (pc := 12) (i := 9) rfl rfl ⟨⟨I3, F4⟩, rfl, hF⟩
noncomputable def l_X8_row_0_34 (a1 : Int32) (a2 : Int32) : Nat → Int32 → kw_S → Int32 × kw_S
  | 0, _, S => (0, S)
  | n + 1, x3, S => if x3.toInt < (40 : Int32).toInt then (kf_l (f_X8_setRow_0 S a1 x3 (0 : Int32)) fun S2 => kf_l (x3 + Int32.ofInt 1) fun z3 => l_X8_row_0_34 a1 a2 n z3 S2) else ((a2, S))
theorem l_X8_row_0_34_s (a1 : Int32) (a2 : Int32) (n : Nat) (x3 : Int32) (S : kw_S) : l_X8_row_0_34 a1 a2 (n + 1) x3 S = if x3.toInt < (40 : Int32).toInt then (kf_l (f_X8_setRow_0 S a1 x3 (0 : Int32)) fun S2 => kf_l (x3 + Int32.ofInt 1) fun z3 => l_X8_row_0_34 a1 a2 n z3 S2) else ((a2, S)) := rfl
noncomputable def f_X8_row_0 (σ : kw_S) (k : Int32) (n : Int32) : Int32 × kw_S := kf_l (f_X8_isRow σ k) fun z1 => if z1.toInt = 0 then ((((-1) : Int32), σ)) else (if (40 : Int32).toInt < n.toInt then ((((-1) : Int32), σ)) else (if n.toInt < 0 then (kf_b (f_X8_meet_0 σ (5 : Int32)) fun z4 S5 => (z4, S5)) else (l_X8_row_0_34 k n ((41 - (0 : Int32).toInt).toNat + 1) (0 : Int32) (kw_ui σ 2 k.toNatClampNeg n))))
theorem f_X8_row_0_u (σ : kw_S) (k : Int32) (n : Int32) : f_X8_row_0 σ k n = kf_l (f_X8_isRow σ k) fun z1 => if z1.toInt = 0 then ((((-1) : Int32), σ)) else (if (40 : Int32).toInt < n.toInt then ((((-1) : Int32), σ)) else (if n.toInt < 0 then (kf_b (f_X8_meet_0 σ (5 : Int32)) fun z4 S5 => (z4, S5)) else (l_X8_row_0_34 k n ((41 - (0 : Int32).toInt).toNat + 1) (0 : Int32) (kw_ui σ 2 k.toNatClampNeg n)))) := rfl
abbrev p_X8_row_0 (T : Int) (σ : kw_S) (k : Int32) (n : Int32) : Option Value → kw_S → Prop := fun vv σ' => (kw_I (bM T) σ' ∧ kw_FM [1, 2, 3, 1000] σ σ') ∧ ∃ r : Int32, vv = some (.int r) ∧ ((k.toInt < 0 ∨ 6 ≤ k.toInt ∨ 40 < n.toInt) ∧ r.toInt = -1 ∨ 0 ≤ k.toInt ∧ k.toInt < 6 ∧ n.toInt < 0 ∧ r.toInt = -3 ∨ 0 ≤ k.toInt ∧ k.toInt < 6 ∧ 0 ≤ n.toInt ∧ n.toInt ≤ 40 ∧ r.toInt = n.toInt) ∧ (r, σ') = f_X8_row_0 σ k n
set_option maxRecDepth 100000 in
set_option maxHeartbeats 4000000 in
theorem c_X8_row_0 (l : Launch) (T : Int) (hT0 : 0 ≤ T) (hT1 : T ≤ 3000) (σ : kw_S) (hI : kw_I (bM T) σ) (k : Int32) (n : Int32) : kw_Met l 3 KM mX8_row [.ref 0, .int k, .int n] σ (p_X8_row_0 T σ k n) := by
  have r_k := kw_rng k
  have r_n := kw_rng n
  have hF0 : kw_FM [1, 2, 3, 1000] σ σ := kw_FM.rf
  have hF := (f_X8_row_0_u σ k n).symm
  have q_m1 : (-1 : Int32).toInt = -1 := rfl
  have q_0 : (0 : Int32).toInt = 0 := rfl
  have q_5 : (5 : Int32).toInt = 5 := rfl
  have q_40 : (40 : Int32).toInt = 40 := rfl
  refine kw_Met.of (by decide) rfl tX8_row (Nat.le_of_ble_eq_true rfl) ?_
  show kw_AW l 3 kw_E0 KM mX8_row (p_X8_row_0 T σ k n) 0 [(0, .ref 0), (1, .int k), (2, .int n)] [] σ
  refine kw_iload_n (pc := 0) (i := 0) (k := 1) (n := 1) rfl rfl rfl ?_
  refine kw_callS (pc := 1) (i := 1) (Y := mX8_isRow) (As := [.int k]) (st := []) kw_hE rfl lsX8_97 arX8_isRow (c_X8_isRow l T hT0 hT1 σ hI k ) (by decide) (Nat.le_of_ble_eq_true rfl) rfl (fun v S2 p1 => ?_)
  obtain ⟨e8, z7, rfl, f3, f4, f5, ef6⟩ := p1
  rw [e8]
  replace hF := kf_le ef6 hF
  have r_z7 := kw_rng z7
  show kw_AW l 3 kw_E0 KM mX8_row (p_X8_row_0 T σ k n) 4 [(0, .ref 0), (1, .int k), (2, .int n)] [.int z7] σ
  refine kw_if_eq (pc := 4) (i := 2) (tgt := 13) rfl rfl (fun c9 => ?_) (fun c9 => ?_)
  · replace hF := kf_p c9 hF
    refine kw_iconst (pc := 13) (i := 6) (v := (-1)) rfl rfl ?_
    exact kw_ireturn (pc := 14) (i := 7) (ty := .int) rfl rfl rfl ⟨⟨hI, hF0⟩, _, rfl, by omega, hF⟩
  · replace hF := kf_n c9 hF
    refine kw_iload_n (pc := 7) (i := 3) (k := 2) (n := 2) rfl rfl rfl ?_
    refine kw_bipush (pc := 8) (i := 4) (v := 40) rfl rfl ?_
    refine kw_icmp_le (pc := 10) (i := 5) (tgt := 15) rfl rfl (fun c10 => ?_) (fun c10 => ?_)
    · replace hF := kf_nl c10 hF
      refine kw_iload_n (pc := 15) (i := 8) (k := 2) (n := 2) rfl rfl rfl ?_
      refine kw_if_ge (pc := 16) (i := 9) (tgt := 25) rfl rfl (fun c11 => ?_) (fun c11 => ?_)
      · replace hF := kf_nl c11 hF
        refine kw_aload_n (pc := 25) (i := 14) (k := 0) (n := 0) rfl rfl rfl ?_
        refine kw_get (pc := 26) (i := 15) (v := .ref 2) rfl rfl rfl lkX8_17 (fun _ => rfl) ?_
        refine kw_iload_n (pc := 29) (i := 16) (k := 1) (n := 1) rfl rfl rfl ?_
        refine kw_iload_n (pc := 30) (i := 17) (k := 2) (n := 2) rfl rfl rfl ?_
        refine kw_iast (pc := 31) (i := 18) (n := 6) rfl rfl (by omega) (by omega) ?_
        have I12 : kw_I (bM T) (kw_ui σ 2 k.toNatClampNeg n) := kw_I_ui hI (show -9 ≤ n.toInt by omega) (show n.toInt ≤ 40 by omega)
        have F13 : kw_FM [1, 2, 3, 1000] σ (kw_ui σ 2 k.toNatClampNeg n) := kw_FM_ui hF0 (by decide) (by decide)
        refine kw_iconst (pc := 32) (i := 19) (v := 0) rfl rfl ?_
        refine kw_istore_n (pc := 33) (i := 20) (n := 3) (lv' := [(3, .int 0), (0, .ref 0), (1, .int k), (2, .int n)]) rfl rfl (by decide) rfl ?_
        have L18 : ∀ (n22 : Nat) (x14 : Int32) (S15 : kw_S), kw_I (bM T) S15 → kw_FM [1, 2, 3, 1000] σ S15 → 0 ≤ x14.toInt → l_X8_row_0_34 k n n22 x14 S15 = (f_X8_row_0 σ k n) → (41 - x14.toInt).toNat < n22 → kw_AW l 3 kw_E0 KM mX8_row (p_X8_row_0 T σ k n) 34 [(3, .int x14), (0, .ref 0), (1, .int k), (2, .int n)] [] S15 := by
          intro n22
          induction n22 with
          | zero => intro x14 S15 I16 F17 v20 hF m21; exact absurd m21 (Nat.not_lt_zero _)
          | succ n22 ih19 =>
            intro x14 S15 I16 F17 v20 hF m21
            replace hF := kf_st (l_X8_row_0_34_s _ _ _ _ _) hF
            have r_x14 := kw_rng x14
            refine kw_iload_n (pc := 34) (i := 21) (k := 0) (n := 3) rfl rfl rfl ?_
            refine kw_bipush (pc := 35) (i := 22) (v := 40) rfl rfl ?_
            refine kw_icmp_ge (pc := 37) (i := 23) (tgt := 53) rfl rfl (fun c23 => ?_) (fun c23 => ?_)
            · replace hF := kf_nl c23 hF
              refine kw_iload_n (pc := 53) (i := 31) (k := 3) (n := 2) rfl rfl rfl ?_
              exact kw_ireturn (pc := 54) (i := 32) (ty := .int) rfl rfl rfl ⟨⟨I16, F17⟩, _, rfl, by omega, hF⟩
            · replace hF := kf_p c23 hF
              refine kw_aload_n (pc := 40) (i := 24) (k := 1) (n := 0) rfl rfl rfl ?_
              refine kw_iload_n (pc := 41) (i := 25) (k := 2) (n := 1) rfl rfl rfl ?_
              refine kw_iload_n (pc := 42) (i := 26) (k := 0) (n := 3) rfl rfl rfl ?_
              refine kw_iconst (pc := 43) (i := 27) (v := 0) rfl rfl ?_
              refine kw_callV (pc := 44) (i := 28) (Y := mX8_setRow) (a := 0) (As := [.int k, .int x14, .int 0]) (st := []) kw_hE rfl rfl lvX8_108 arX8_setRow (c_X8_setRow_0 l T hT0 hT1 S15 I16 k x14 0 (by first | omega | decide) (by first | omega | decide) (by first | omega | decide) (by first | omega | decide)) (by decide) (Nat.le_of_ble_eq_true rfl) rfl (fun v S25 p24 => ?_)
              obtain ⟨⟨I27, F28⟩, rfl, ef26⟩ := p24
              have F29 : kw_FM [1, 2, 3, 1000] σ S25 := kw_FM.tr F17 F28 (by decide)
              have w_30 : (S25.1 0 27).toInt = (S15.1 0 27).toInt := congrArg Int32.toInt (kw_FM.at0 (j := 27) F28 (by decide))
              replace hF := kf_le ef26 hF
              show kw_AW l 3 kw_E0 KM mX8_row (p_X8_row_0 T σ k n) 47 [(3, .int x14), (0, .ref 0), (1, .int k), (2, .int n)] [] S25
              refine kw_iinc' (pc := 47) (i := 29) (k := 0) (fun z => [(3, .int z), (0, .ref 0), (1, .int k), (2, .int n)]) rfl rfl (by decide) rfl (fun _ => rfl) (fun z31 e_z31 t_z31 => ?_)
              replace hF := kf_le e_z31 hF
              first | (have u_z31 : z31.toInt = x14.toInt + 1 := (by omega); clear t_z31) | skip
              refine kw_goto (pc := 50) (i := 30) (tgt := 34) rfl rfl ?_
              refine kw_sub (lv' := [(3, .int z31), (0, .ref 0), (1, .int k), (2, .int n)]) [0, 1, 2, 3] rfl ?_
              exact ih19 z31 S25 I27 F29 (by omega) hF (by omega)
        exact L18 _ 0 (kw_ui σ 2 k.toNatClampNeg n) I12 F13 (by omega) hF (Nat.lt_succ_self _)
      · replace hF := kf_p c11 hF
        refine kw_aload_n (pc := 19) (i := 10) (k := 0) (n := 0) rfl rfl rfl ?_
        refine kw_iconst (pc := 20) (i := 11) (v := 5) rfl rfl ?_
        refine kw_callV (pc := 21) (i := 12) (Y := mX8_meet) (a := 0) (As := [.int 5]) (st := []) kw_hE rfl rfl lvX8_101 arX8_meet (c_X8_meet_0 l T hT0 hT1 σ hI 5 (by first | omega | decide) (by first | omega | decide)) (by decide) (Nat.le_of_ble_eq_true rfl) rfl (fun v S33 p32 => ?_)
        obtain ⟨⟨I37, F38⟩, z36, rfl, f34, ef35⟩ := p32
        have F39 : kw_FM [1, 2, 3, 1000] σ S33 := kw_FM.tr hF0 F38 (by decide)
        have w_40 : (S33.1 0 27).toInt = (σ.1 0 27).toInt := congrArg Int32.toInt (kw_FM.at0 (j := 27) F38 (by decide))
        replace hF := kf_be ef35 hF
        have r_z36 := kw_rng z36
        show kw_AW l 3 kw_E0 KM mX8_row (p_X8_row_0 T σ k n) 24 [(0, .ref 0), (1, .int k), (2, .int n)] [.int z36] S33
        exact kw_ireturn (pc := 24) (i := 13) (ty := .int) rfl rfl rfl ⟨⟨I37, F39⟩, _, rfl, by omega, hF⟩
    · replace hF := kf_p c10 hF
      refine kw_iconst (pc := 13) (i := 6) (v := (-1)) rfl rfl ?_
      exact kw_ireturn (pc := 14) (i := 7) (ty := .int) rfl rfl rfl ⟨⟨hI, hF0⟩, _, rfl, by omega, hF⟩
noncomputable def l_X8_text_0_34 (a1 : Int32) (a2 : Int32) : Nat → Int32 → kw_S → Int32 × kw_S
  | 0, _, S => (0, S)
  | n + 1, x3, S => if x3.toInt < (60 : Int32).toInt then (kf_l ((60 : Int32) * a1) fun z2 => kf_l (z2 + x3) fun z3 => kf_l (x3 + Int32.ofInt 1) fun z4 => l_X8_text_0_34 a1 a2 n z4 (kw_ui S 6 z3.toNatClampNeg 32)) else ((a2, S))
theorem l_X8_text_0_34_s (a1 : Int32) (a2 : Int32) (n : Nat) (x3 : Int32) (S : kw_S) : l_X8_text_0_34 a1 a2 (n + 1) x3 S = if x3.toInt < (60 : Int32).toInt then (kf_l ((60 : Int32) * a1) fun z2 => kf_l (z2 + x3) fun z3 => kf_l (x3 + Int32.ofInt 1) fun z4 => l_X8_text_0_34 a1 a2 n z4 (kw_ui S 6 z3.toNatClampNeg 32)) else ((a2, S)) := rfl
noncomputable def f_X8_text_0 (σ : kw_S) (k : Int32) (n : Int32) : Int32 × kw_S := kf_l (f_X8_isText σ k) fun z1 => if z1.toInt = 0 then ((((-1) : Int32), σ)) else (if (60 : Int32).toInt < n.toInt then ((((-1) : Int32), σ)) else (if n.toInt < 0 then (kf_b (f_X8_meet_0 σ (5 : Int32)) fun z5 S6 => (z5, S6)) else (l_X8_text_0_34 k n ((61 - (0 : Int32).toInt).toNat + 1) (0 : Int32) (kw_ui σ 5 k.toNatClampNeg n))))
theorem f_X8_text_0_u (σ : kw_S) (k : Int32) (n : Int32) : f_X8_text_0 σ k n = kf_l (f_X8_isText σ k) fun z1 => if z1.toInt = 0 then ((((-1) : Int32), σ)) else (if (60 : Int32).toInt < n.toInt then ((((-1) : Int32), σ)) else (if n.toInt < 0 then (kf_b (f_X8_meet_0 σ (5 : Int32)) fun z5 S6 => (z5, S6)) else (l_X8_text_0_34 k n ((61 - (0 : Int32).toInt).toNat + 1) (0 : Int32) (kw_ui σ 5 k.toNatClampNeg n)))) := rfl
abbrev p_X8_text_0 (T : Int) (σ : kw_S) (k : Int32) (n : Int32) : Option Value → kw_S → Prop := fun vv σ' => (kw_I (bM T) σ' ∧ kw_FM [1, 5, 6, 1000] σ σ') ∧ ∃ r : Int32, vv = some (.int r) ∧ ((k.toInt < 0 ∨ 4 ≤ k.toInt ∨ 60 < n.toInt) ∧ r.toInt = -1 ∨ 0 ≤ k.toInt ∧ k.toInt < 4 ∧ n.toInt < 0 ∧ r.toInt = -3 ∨ 0 ≤ k.toInt ∧ k.toInt < 4 ∧ 0 ≤ n.toInt ∧ n.toInt ≤ 60 ∧ r.toInt = n.toInt) ∧ (r, σ') = f_X8_text_0 σ k n
set_option maxRecDepth 100000 in
set_option maxHeartbeats 4000000 in
theorem c_X8_text_0 (l : Launch) (T : Int) (hT0 : 0 ≤ T) (hT1 : T ≤ 3000) (σ : kw_S) (hI : kw_I (bM T) σ) (k : Int32) (n : Int32) : kw_Met l 3 KM mX8_text [.ref 0, .int k, .int n] σ (p_X8_text_0 T σ k n) := by
  have r_k := kw_rng k
  have r_n := kw_rng n
  have hF0 : kw_FM [1, 5, 6, 1000] σ σ := kw_FM.rf
  have hF := (f_X8_text_0_u σ k n).symm
  have q_m1 : (-1 : Int32).toInt = -1 := rfl
  have q_0 : (0 : Int32).toInt = 0 := rfl
  have q_5 : (5 : Int32).toInt = 5 := rfl
  have q_32 : (32 : Int32).toInt = 32 := rfl
  have q_60 : (60 : Int32).toInt = 60 := rfl
  refine kw_Met.of (by decide) rfl tX8_text (Nat.le_of_ble_eq_true rfl) ?_
  show kw_AW l 3 kw_E0 KM mX8_text (p_X8_text_0 T σ k n) 0 [(0, .ref 0), (1, .int k), (2, .int n)] [] σ
  refine kw_iload_n (pc := 0) (i := 0) (k := 1) (n := 1) rfl rfl rfl ?_
  refine kw_callS (pc := 1) (i := 1) (Y := mX8_isText) (As := [.int k]) (st := []) kw_hE rfl lsX8_105 arX8_isText (c_X8_isText l T hT0 hT1 σ hI k ) (by decide) (Nat.le_of_ble_eq_true rfl) rfl (fun v S2 p1 => ?_)
  obtain ⟨e8, z7, rfl, f3, f4, f5, ef6⟩ := p1
  rw [e8]
  replace hF := kf_le ef6 hF
  have r_z7 := kw_rng z7
  show kw_AW l 3 kw_E0 KM mX8_text (p_X8_text_0 T σ k n) 4 [(0, .ref 0), (1, .int k), (2, .int n)] [.int z7] σ
  refine kw_if_eq (pc := 4) (i := 2) (tgt := 13) rfl rfl (fun c9 => ?_) (fun c9 => ?_)
  · replace hF := kf_p c9 hF
    refine kw_iconst (pc := 13) (i := 6) (v := (-1)) rfl rfl ?_
    exact kw_ireturn (pc := 14) (i := 7) (ty := .int) rfl rfl rfl ⟨⟨hI, hF0⟩, _, rfl, by omega, hF⟩
  · replace hF := kf_n c9 hF
    refine kw_iload_n (pc := 7) (i := 3) (k := 2) (n := 2) rfl rfl rfl ?_
    refine kw_bipush (pc := 8) (i := 4) (v := 60) rfl rfl ?_
    refine kw_icmp_le (pc := 10) (i := 5) (tgt := 15) rfl rfl (fun c10 => ?_) (fun c10 => ?_)
    · replace hF := kf_nl c10 hF
      refine kw_iload_n (pc := 15) (i := 8) (k := 2) (n := 2) rfl rfl rfl ?_
      refine kw_if_ge (pc := 16) (i := 9) (tgt := 25) rfl rfl (fun c11 => ?_) (fun c11 => ?_)
      · replace hF := kf_nl c11 hF
        refine kw_aload_n (pc := 25) (i := 14) (k := 0) (n := 0) rfl rfl rfl ?_
        refine kw_get (pc := 26) (i := 15) (v := .ref 5) rfl rfl rfl lkX8_26 (fun _ => rfl) ?_
        refine kw_iload_n (pc := 29) (i := 16) (k := 1) (n := 1) rfl rfl rfl ?_
        refine kw_iload_n (pc := 30) (i := 17) (k := 2) (n := 2) rfl rfl rfl ?_
        refine kw_iast (pc := 31) (i := 18) (n := 4) rfl rfl (by omega) (by omega) ?_
        have I12 : kw_I (bM T) (kw_ui σ 5 k.toNatClampNeg n) := kw_I_ui hI (show -9 ≤ n.toInt by omega) (show n.toInt ≤ 60 by omega)
        have F13 : kw_FM [1, 5, 6, 1000] σ (kw_ui σ 5 k.toNatClampNeg n) := kw_FM_ui hF0 (by decide) (by decide)
        refine kw_iconst (pc := 32) (i := 19) (v := 0) rfl rfl ?_
        refine kw_istore_n (pc := 33) (i := 20) (n := 3) (lv' := [(3, .int 0), (0, .ref 0), (1, .int k), (2, .int n)]) rfl rfl (by decide) rfl ?_
        have L18 : ∀ (n22 : Nat) (x14 : Int32) (S15 : kw_S), kw_I (bM T) S15 → kw_FM [1, 5, 6, 1000] σ S15 → 0 ≤ x14.toInt → l_X8_text_0_34 k n n22 x14 S15 = (f_X8_text_0 σ k n) → (61 - x14.toInt).toNat < n22 → kw_AW l 3 kw_E0 KM mX8_text (p_X8_text_0 T σ k n) 34 [(3, .int x14), (0, .ref 0), (1, .int k), (2, .int n)] [] S15 := by
          intro n22
          induction n22 with
          | zero => intro x14 S15 I16 F17 v20 hF m21; exact absurd m21 (Nat.not_lt_zero _)
          | succ n22 ih19 =>
            intro x14 S15 I16 F17 v20 hF m21
            replace hF := kf_st (l_X8_text_0_34_s _ _ _ _ _) hF
            have r_x14 := kw_rng x14
            refine kw_iload_n (pc := 34) (i := 21) (k := 0) (n := 3) rfl rfl rfl ?_
            refine kw_bipush (pc := 35) (i := 22) (v := 60) rfl rfl ?_
            refine kw_icmp_ge (pc := 37) (i := 23) (tgt := 59) rfl rfl (fun c23 => ?_) (fun c23 => ?_)
            · replace hF := kf_nl c23 hF
              refine kw_iload_n (pc := 59) (i := 35) (k := 3) (n := 2) rfl rfl rfl ?_
              exact kw_ireturn (pc := 60) (i := 36) (ty := .int) rfl rfl rfl ⟨⟨I16, F17⟩, _, rfl, by omega, hF⟩
            · replace hF := kf_p c23 hF
              refine kw_aload_n (pc := 40) (i := 24) (k := 1) (n := 0) rfl rfl rfl ?_
              refine kw_get (pc := 41) (i := 25) (v := .ref 6) rfl rfl rfl lkX8_29 (fun _ => rfl) ?_
              refine kw_bipush (pc := 44) (i := 26) (v := 60) rfl rfl ?_
              refine kw_iload_n (pc := 46) (i := 27) (k := 2) (n := 1) rfl rfl rfl ?_
              refine kw_imul (pc := 47) (i := 28) rfl (fun z24 e_z24 t_z24 => ?_)
              replace hF := kf_le e_z24 hF
              rw [show (60 : Int32).toInt = 60 from rfl] at t_z24
              first | (have u_z24 : z24.toInt = 60 * k.toInt := (by omega); clear t_z24) | skip
              refine kw_iload_n (pc := 48) (i := 29) (k := 0) (n := 3) rfl rfl rfl ?_
              refine kw_iadd (pc := 49) (i := 30) rfl (fun z25 e_z25 t_z25 => ?_)
              replace hF := kf_le e_z25 hF
              first | (have u_z25 : z25.toInt = z24.toInt + x14.toInt := (by omega); clear t_z25) | skip
              refine kw_bipush (pc := 50) (i := 31) (v := 32) rfl rfl ?_
              refine kw_iast (pc := 52) (i := 32) (n := 240) rfl rfl (by omega) (by omega) ?_
              have I26 : kw_I (bM T) (kw_ui S15 6 z25.toNatClampNeg 32) := kw_I_ui I16 (kw_rng (32 : Int32)).1 (Int.le_of_lt_add_one (kw_rng (32 : Int32)).2)
              have F27 : kw_FM [1, 5, 6, 1000] σ (kw_ui S15 6 z25.toNatClampNeg 32) := kw_FM_ui F17 (by decide) (by decide)
              refine kw_iinc' (pc := 53) (i := 33) (k := 0) (fun z => [(3, .int z), (0, .ref 0), (1, .int k), (2, .int n)]) rfl rfl (by decide) rfl (fun _ => rfl) (fun z28 e_z28 t_z28 => ?_)
              replace hF := kf_le e_z28 hF
              first | (have u_z28 : z28.toInt = x14.toInt + 1 := (by omega); clear t_z28) | skip
              refine kw_goto (pc := 56) (i := 34) (tgt := 34) rfl rfl ?_
              refine kw_sub (lv' := [(3, .int z28), (0, .ref 0), (1, .int k), (2, .int n)]) [0, 1, 2, 3] rfl ?_
              exact ih19 z28 (kw_ui S15 6 z25.toNatClampNeg 32) I26 F27 (by omega) hF (by omega)
        exact L18 _ 0 (kw_ui σ 5 k.toNatClampNeg n) I12 F13 (by omega) hF (Nat.lt_succ_self _)
      · replace hF := kf_p c11 hF
        refine kw_aload_n (pc := 19) (i := 10) (k := 0) (n := 0) rfl rfl rfl ?_
        refine kw_iconst (pc := 20) (i := 11) (v := 5) rfl rfl ?_
        refine kw_callV (pc := 21) (i := 12) (Y := mX8_meet) (a := 0) (As := [.int 5]) (st := []) kw_hE rfl rfl lvX8_101 arX8_meet (c_X8_meet_0 l T hT0 hT1 σ hI 5 (by first | omega | decide) (by first | omega | decide)) (by decide) (Nat.le_of_ble_eq_true rfl) rfl (fun v S30 p29 => ?_)
        obtain ⟨⟨I34, F35⟩, z33, rfl, f31, ef32⟩ := p29
        have F36 : kw_FM [1, 5, 6, 1000] σ S30 := kw_FM.tr hF0 F35 (by decide)
        have w_37 : (S30.1 0 27).toInt = (σ.1 0 27).toInt := congrArg Int32.toInt (kw_FM.at0 (j := 27) F35 (by decide))
        replace hF := kf_be ef32 hF
        have r_z33 := kw_rng z33
        show kw_AW l 3 kw_E0 KM mX8_text (p_X8_text_0 T σ k n) 24 [(0, .ref 0), (1, .int k), (2, .int n)] [.int z33] S30
        exact kw_ireturn (pc := 24) (i := 13) (ty := .int) rfl rfl rfl ⟨⟨I34, F36⟩, _, rfl, by omega, hF⟩
    · replace hF := kf_p c10 hF
      refine kw_iconst (pc := 13) (i := 6) (v := (-1)) rfl rfl ?_
      exact kw_ireturn (pc := 14) (i := 7) (ty := .int) rfl rfl rfl ⟨⟨hI, hF0⟩, _, rfl, by omega, hF⟩
noncomputable def f_X8_at_0 (σ : kw_S) (a : Int32) (i : Int32) : Int32 × kw_S := kf_b (f_X8_askedRow_0 σ a) fun z1 S2 => if z1.toInt < 0 then ((z1, S2)) else (kf_l (S2.1 2 a.toNatClampNeg) fun z3 => kf_l (z3 - (1 : Int32)) fun z4 => kf_l (f_X8_in S2 i (0 : Int32) z4) fun z5 => if z5.toInt = 0 then (kf_b (f_X8_meet_0 S2 (2 : Int32)) fun z6 S7 => (z6, S7)) else (kf_l (f_X8_rowAt_0 S2 a i) fun z8 => kf_b (f_X8_ask_0 S2 z8 (1 : Int32)) fun z9 S10 => (z9, S10)))
theorem f_X8_at_0_u (σ : kw_S) (a : Int32) (i : Int32) : f_X8_at_0 σ a i = kf_b (f_X8_askedRow_0 σ a) fun z1 S2 => if z1.toInt < 0 then ((z1, S2)) else (kf_l (S2.1 2 a.toNatClampNeg) fun z3 => kf_l (z3 - (1 : Int32)) fun z4 => kf_l (f_X8_in S2 i (0 : Int32) z4) fun z5 => if z5.toInt = 0 then (kf_b (f_X8_meet_0 S2 (2 : Int32)) fun z6 S7 => (z6, S7)) else (kf_l (f_X8_rowAt_0 S2 a i) fun z8 => kf_b (f_X8_ask_0 S2 z8 (1 : Int32)) fun z9 S10 => (z9, S10))) := rfl
abbrev p_X8_at_0 (T : Int) (σ : kw_S) (a : Int32) (i : Int32) : Option Value → kw_S → Prop := fun vv σ' => (kw_I (bM T) σ' ∧ kw_FM [1, 1000, 1002] σ σ') ∧ ∃ r : Int32, vv = some (.int r) ∧ (r.toInt < 0 ∨ 0 ≤ a.toInt ∧ a.toInt ≤ 5 ∧ 0 ≤ i.toInt ∧ i.toInt < 40) ∧ (r, σ') = f_X8_at_0 σ a i
set_option maxRecDepth 100000 in
set_option maxHeartbeats 4000000 in
theorem c_X8_at_0 (l : Launch) (T : Int) (hT0 : 0 ≤ T) (hT1 : T ≤ 3000) (σ : kw_S) (hI : kw_I (bM T) σ) (a : Int32) (i : Int32) : kw_Met l 4 KM mX8_at [.ref 0, .int a, .int i] σ (p_X8_at_0 T σ a i) := by
  have r_a := kw_rng a
  have r_i := kw_rng i
  have hF0 : kw_FM [1, 1000, 1002] σ σ := kw_FM.rf
  have hF := (f_X8_at_0_u σ a i).symm
  have q_0 : (0 : Int32).toInt = 0 := rfl
  have q_1 : (1 : Int32).toInt = 1 := rfl
  have q_2 : (2 : Int32).toInt = 2 := rfl
  refine kw_Met.of (by decide) rfl tX8_at (Nat.le_of_ble_eq_true rfl) ?_
  show kw_AW l 4 kw_E0 KM mX8_at (p_X8_at_0 T σ a i) 0 [(0, .ref 0), (1, .int a), (2, .int i)] [] σ
  refine kw_aload_n (pc := 0) (i := 0) (k := 0) (n := 0) rfl rfl rfl ?_
  refine kw_iload_n (pc := 1) (i := 1) (k := 1) (n := 1) rfl rfl rfl ?_
  refine kw_callV (pc := 2) (i := 2) (Y := mX8_askedRow) (a := 0) (As := [.int a]) (st := []) kw_hE rfl rfl lvX8_112 arX8_askedRow (c_X8_askedRow_0 l T hT0 hT1 σ hI a ) (by decide) (Nat.le_of_ble_eq_true rfl) rfl (fun v S2 p1 => ?_)
  obtain ⟨⟨I6, F7⟩, z5, rfl, f3, ef4⟩ := p1
  have F8 : kw_FM [1, 1000, 1002] σ S2 := kw_FM.tr hF0 F7 (by decide)
  have w_9 : (S2.1 0 27).toInt = (σ.1 0 27).toInt := congrArg Int32.toInt (kw_FM.at0 (j := 27) F7 (by decide))
  replace hF := kf_be ef4 hF
  have r_z5 := kw_rng z5
  show kw_AW l 4 kw_E0 KM mX8_at (p_X8_at_0 T σ a i) 5 [(0, .ref 0), (1, .int a), (2, .int i)] [.int z5] S2
  refine kw_istore_n (pc := 5) (i := 3) (n := 3) (lv' := [(3, .int z5), (0, .ref 0), (1, .int a), (2, .int i)]) rfl rfl (by decide) rfl ?_
  refine kw_iload_n (pc := 6) (i := 4) (k := 0) (n := 3) rfl rfl rfl ?_
  refine kw_if_ge (pc := 7) (i := 5) (tgt := 12) rfl rfl (fun c10 => ?_) (fun c10 => ?_)
  · replace hF := kf_nl c10 hF
    refine kw_iload_n (pc := 12) (i := 8) (k := 3) (n := 2) rfl rfl rfl ?_
    refine kw_iconst (pc := 13) (i := 9) (v := 0) rfl rfl ?_
    refine kw_aload_n (pc := 14) (i := 10) (k := 1) (n := 0) rfl rfl rfl ?_
    refine kw_get (pc := 15) (i := 11) (v := .ref 2) rfl rfl rfl lkX8_17 (fun _ => rfl) ?_
    refine kw_iload_n (pc := 18) (i := 12) (k := 2) (n := 1) rfl rfl rfl ?_
    refine kw_iald (pc := 19) (i := 13) (n := 6) rfl rfl (by omega) (by omega) (fun z11 e_z11 => ?_)
    replace hF := kf_le e_z11 hF
    have t_z11 := congrArg Int32.toInt e_z11
    have b_z11 : -9 ≤ z11.toInt ∧ z11.toInt ≤ 40 := by rw [e_z11]; exact I6 2 _
    refine kw_iconst (pc := 20) (i := 14) (v := 1) rfl rfl ?_
    refine kw_isub (pc := 21) (i := 15) rfl (fun z12 e_z12 t_z12 => ?_)
    replace hF := kf_le e_z12 hF
    first | (have u_z12 : z12.toInt = z11.toInt - 1 := (by omega); clear t_z12) | skip
    refine kw_callS (pc := 22) (i := 16) (Y := mX8_in) (As := [.int i, .int 0, .int z12]) (st := []) kw_hE rfl lsX8_93 arX8_in (c_X8_in l T hT0 hT1 S2 I6 i 0 z12 ) (by decide) (Nat.le_of_ble_eq_true rfl) rfl (fun v S14 p13 => ?_)
    obtain ⟨e20, z19, rfl, f15, f16, f17, ef18⟩ := p13
    rw [e20]
    replace hF := kf_le ef18 hF
    have r_z19 := kw_rng z19
    show kw_AW l 4 kw_E0 KM mX8_at (p_X8_at_0 T σ a i) 25 [(3, .int z5), (0, .ref 0), (1, .int a), (2, .int i)] [.int z19] S2
    refine kw_if_eq (pc := 25) (i := 17) (tgt := 42) rfl rfl (fun c21 => ?_) (fun c21 => ?_)
    · replace hF := kf_p c21 hF
      refine kw_aload_n (pc := 42) (i := 26) (k := 1) (n := 0) rfl rfl rfl ?_
      refine kw_iconst (pc := 43) (i := 27) (v := 2) rfl rfl ?_
      refine kw_callV (pc := 44) (i := 28) (Y := mX8_meet) (a := 0) (As := [.int 2]) (st := []) kw_hE rfl rfl lvX8_101 arX8_meet (c_X8_meet_0 l T hT0 hT1 S2 I6 2 (by first | omega | decide) (by first | omega | decide)) (by decide) (Nat.le_of_ble_eq_true rfl) rfl (fun v S23 p22 => ?_)
      obtain ⟨⟨I27, F28⟩, z26, rfl, f24, ef25⟩ := p22
      have F29 : kw_FM [1, 1000, 1002] σ S23 := kw_FM.tr F8 F28 (by decide)
      have w_30 : (S23.1 0 27).toInt = (S2.1 0 27).toInt := congrArg Int32.toInt (kw_FM.at0 (j := 27) F28 (by decide))
      replace hF := kf_be ef25 hF
      have r_z26 := kw_rng z26
      show kw_AW l 4 kw_E0 KM mX8_at (p_X8_at_0 T σ a i) 47 [(3, .int z5), (0, .ref 0), (1, .int a), (2, .int i)] [.int z26] S23
      exact kw_ireturn (pc := 47) (i := 29) (ty := .int) rfl rfl rfl ⟨⟨I27, F29⟩, _, rfl, by omega, hF⟩
    · replace hF := kf_n c21 hF
      refine kw_aload_n (pc := 28) (i := 18) (k := 1) (n := 0) rfl rfl rfl ?_
      refine kw_aload_n (pc := 29) (i := 19) (k := 1) (n := 0) rfl rfl rfl ?_
      refine kw_iload_n (pc := 30) (i := 20) (k := 2) (n := 1) rfl rfl rfl ?_
      refine kw_iload_n (pc := 31) (i := 21) (k := 3) (n := 2) rfl rfl rfl ?_
      refine kw_callV (pc := 32) (i := 22) (Y := mX8_rowAt) (a := 0) (As := [.int a, .int i]) (st := [.ref 0]) kw_hE rfl rfl lvX8_115 arX8_rowAt (c_X8_rowAt_0 l T hT0 hT1 S2 I6 a i (by first | omega | decide) (by first | omega | decide) (by first | omega | decide) (by first | omega | decide)) (by decide) (Nat.le_of_ble_eq_true rfl) rfl (fun v S32 p31 => ?_)
      obtain ⟨e35, z34, rfl, ef33⟩ := p31
      rw [e35]
      replace hF := kf_le ef33 hF
      have r_z34 := kw_rng z34
      show kw_AW l 4 kw_E0 KM mX8_at (p_X8_at_0 T σ a i) 35 [(3, .int z5), (0, .ref 0), (1, .int a), (2, .int i)] [.int z34, .ref 0] S2
      refine kw_iconst (pc := 35) (i := 23) (v := 1) rfl rfl ?_
      refine kw_callV (pc := 36) (i := 24) (Y := mX8_ask) (a := 0) (As := [.int z34, .int 1]) (st := []) kw_hE rfl rfl lvX8_119 arX8_ask (c_X8_ask_0 l T hT0 hT1 S2 I6 z34 1 ) (by decide) (Nat.le_of_ble_eq_true rfl) rfl (fun v S37 p36 => ?_)
      obtain ⟨⟨I41, F42⟩, z40, rfl, f38, ef39⟩ := p36
      have F43 : kw_FM [1, 1000, 1002] σ S37 := kw_FM.tr F8 F42 (by decide)
      have w_44 : (S37.1 0 27).toInt = (S2.1 0 27).toInt := congrArg Int32.toInt (kw_FM.at0 (j := 27) F42 (by decide))
      replace hF := kf_be ef39 hF
      have r_z40 := kw_rng z40
      show kw_AW l 4 kw_E0 KM mX8_at (p_X8_at_0 T σ a i) 39 [(3, .int z5), (0, .ref 0), (1, .int a), (2, .int i)] [.int z40] S37
      refine kw_goto (pc := 39) (i := 25) (tgt := 47) rfl rfl ?_
      exact kw_ireturn (pc := 47) (i := 29) (ty := .int) rfl rfl rfl ⟨⟨I41, F43⟩, _, rfl, by omega, hF⟩
  · replace hF := kf_p c10 hF
    refine kw_iload_n (pc := 10) (i := 6) (k := 0) (n := 3) rfl rfl rfl ?_
    exact kw_ireturn (pc := 11) (i := 7) (ty := .int) rfl rfl rfl ⟨⟨I6, F8⟩, _, rfl, by omega, hF⟩
noncomputable def f_X8_lay_0 (σ : kw_S) (a : Int32) (i : Int32) (v : Int32) : Int32 × kw_S := kf_b (f_X8_at_0 σ a i) fun z1 S2 => if z1.toInt < 0 then ((z1, S2)) else (kf_l (f_X8_setRow_0 S2 a i v) fun S3 => ((1 : Int32), S3))
theorem f_X8_lay_0_u (σ : kw_S) (a : Int32) (i : Int32) (v : Int32) : f_X8_lay_0 σ a i v = kf_b (f_X8_at_0 σ a i) fun z1 S2 => if z1.toInt < 0 then ((z1, S2)) else (kf_l (f_X8_setRow_0 S2 a i v) fun S3 => ((1 : Int32), S3)) := rfl
abbrev p_X8_lay_0 (T : Int) (σ : kw_S) (a : Int32) (i : Int32) (v : Int32) : Option Value → kw_S → Prop := fun vv σ' => (kw_I (bM T) σ' ∧ kw_FM [1, 3, 1000, 1002] σ σ') ∧ ∃ r : Int32, vv = some (.int r) ∧ (r, σ') = f_X8_lay_0 σ a i v
set_option maxRecDepth 100000 in
set_option maxHeartbeats 4000000 in
theorem c_X8_lay_0 (l : Launch) (T : Int) (hT0 : 0 ≤ T) (hT1 : T ≤ 3000) (σ : kw_S) (hI : kw_I (bM T) σ) (a : Int32) (i : Int32) (v : Int32) : kw_Met l 5 KM mX8_lay [.ref 0, .int a, .int i, .int v] σ (p_X8_lay_0 T σ a i v) := by
  have r_a := kw_rng a
  have r_i := kw_rng i
  have r_v := kw_rng v
  have hF0 : kw_FM [1, 3, 1000, 1002] σ σ := kw_FM.rf
  have hF := (f_X8_lay_0_u σ a i v).symm
  have q_1 : (1 : Int32).toInt = 1 := rfl
  refine kw_Met.of (by decide) rfl tX8_lay (Nat.le_of_ble_eq_true rfl) ?_
  show kw_AW l 5 kw_E0 KM mX8_lay (p_X8_lay_0 T σ a i v) 0 [(0, .ref 0), (1, .int a), (2, .int i), (3, .int v)] [] σ
  refine kw_aload_n (pc := 0) (i := 0) (k := 0) (n := 0) rfl rfl rfl ?_
  refine kw_iload_n (pc := 1) (i := 1) (k := 1) (n := 1) rfl rfl rfl ?_
  refine kw_iload_n (pc := 2) (i := 2) (k := 2) (n := 2) rfl rfl rfl ?_
  refine kw_callV (pc := 3) (i := 3) (Y := mX8_at) (a := 0) (As := [.int a, .int i]) (st := []) kw_hE rfl rfl lvX8_122 arX8_at (c_X8_at_0 l T hT0 hT1 σ hI a i ) (by decide) (Nat.le_of_ble_eq_true rfl) rfl (fun v S2 p1 => ?_)
  obtain ⟨⟨I6, F7⟩, z5, rfl, f3, ef4⟩ := p1
  have F8 : kw_FM [1, 3, 1000, 1002] σ S2 := kw_FM.tr hF0 F7 (by decide)
  have w_9 : (S2.1 0 27).toInt = (σ.1 0 27).toInt := congrArg Int32.toInt (kw_FM.at0 (j := 27) F7 (by decide))
  replace hF := kf_be ef4 hF
  have r_z5 := kw_rng z5
  show kw_AW l 5 kw_E0 KM mX8_lay (p_X8_lay_0 T σ a i v) 6 [(0, .ref 0), (1, .int a), (2, .int i), (3, .int v)] [.int z5] S2
  refine kw_istore (pc := 6) (i := 4) (n := 4) (lv' := [(4, .int z5), (0, .ref 0), (1, .int a), (2, .int i), (3, .int v)]) rfl (by decide) rfl ?_
  refine kw_iload (pc := 8) (i := 5) (k := 0) (n := 4) rfl rfl ?_
  refine kw_if_ge (pc := 10) (i := 6) (tgt := 16) rfl rfl (fun c10 => ?_) (fun c10 => ?_)
  · replace hF := kf_nl c10 hF
    refine kw_aload_n (pc := 16) (i := 9) (k := 1) (n := 0) rfl rfl rfl ?_
    refine kw_iload_n (pc := 17) (i := 10) (k := 2) (n := 1) rfl rfl rfl ?_
    refine kw_iload_n (pc := 18) (i := 11) (k := 3) (n := 2) rfl rfl rfl ?_
    refine kw_iload_n (pc := 19) (i := 12) (k := 4) (n := 3) rfl rfl rfl ?_
    refine kw_callV (pc := 20) (i := 13) (Y := mX8_setRow) (a := 0) (As := [.int a, .int i, .int v]) (st := []) kw_hE rfl rfl lvX8_108 arX8_setRow (c_X8_setRow_0 l T hT0 hT1 S2 I6 a i v (by first | omega | decide) (by first | omega | decide) (by first | omega | decide) (by first | omega | decide)) (by decide) (Nat.le_of_ble_eq_true rfl) rfl (fun v S12 p11 => ?_)
    obtain ⟨⟨I14, F15⟩, rfl, ef13⟩ := p11
    have F16 : kw_FM [1, 3, 1000, 1002] σ S12 := kw_FM.tr F8 F15 (by decide)
    have w_17 : (S12.1 0 27).toInt = (S2.1 0 27).toInt := congrArg Int32.toInt (kw_FM.at0 (j := 27) F15 (by decide))
    replace hF := kf_le ef13 hF
    show kw_AW l 5 kw_E0 KM mX8_lay (p_X8_lay_0 T σ a i v) 23 [(4, .int z5), (0, .ref 0), (1, .int a), (2, .int i), (3, .int v)] [] S12
    refine kw_iconst (pc := 23) (i := 14) (v := 1) rfl rfl ?_
    exact kw_ireturn (pc := 24) (i := 15) (ty := .int) rfl rfl rfl ⟨⟨I14, F16⟩, _, rfl, hF⟩
  · replace hF := kf_p c10 hF
    refine kw_iload (pc := 13) (i := 7) (k := 0) (n := 4) rfl rfl ?_
    exact kw_ireturn (pc := 15) (i := 8) (ty := .int) rfl rfl rfl ⟨⟨I6, F8⟩, _, rfl, hF⟩
noncomputable def f_X8_tear_0 (σ : kw_S) (a : Int32) : Int32 × kw_S := kf_b (f_X8_askedRow_0 σ a) fun z1 S2 => if z1.toInt < 0 then ((z1, S2)) else (((1 : Int32), kw_ui S2 2 a.toNatClampNeg (-9)))
theorem f_X8_tear_0_u (σ : kw_S) (a : Int32) : f_X8_tear_0 σ a = kf_b (f_X8_askedRow_0 σ a) fun z1 S2 => if z1.toInt < 0 then ((z1, S2)) else (((1 : Int32), kw_ui S2 2 a.toNatClampNeg (-9))) := rfl
abbrev p_X8_tear_0 (T : Int) (σ : kw_S) (a : Int32) : Option Value → kw_S → Prop := fun vv σ' => (kw_I (bM T) σ' ∧ kw_FM [1, 2, 1000] σ σ') ∧ ∃ r : Int32, vv = some (.int r) ∧ (r, σ') = f_X8_tear_0 σ a
set_option maxRecDepth 100000 in
set_option maxHeartbeats 4000000 in
theorem c_X8_tear_0 (l : Launch) (T : Int) (hT0 : 0 ≤ T) (hT1 : T ≤ 3000) (σ : kw_S) (hI : kw_I (bM T) σ) (a : Int32) : kw_Met l 4 KM mX8_tear [.ref 0, .int a] σ (p_X8_tear_0 T σ a) := by
  have r_a := kw_rng a
  have hF0 : kw_FM [1, 2, 1000] σ σ := kw_FM.rf
  have hF := (f_X8_tear_0_u σ a).symm
  have q_m9 : (-9 : Int32).toInt = -9 := rfl
  have q_1 : (1 : Int32).toInt = 1 := rfl
  refine kw_Met.of (by decide) rfl tX8_tear (Nat.le_of_ble_eq_true rfl) ?_
  show kw_AW l 4 kw_E0 KM mX8_tear (p_X8_tear_0 T σ a) 0 [(0, .ref 0), (1, .int a)] [] σ
  refine kw_aload_n (pc := 0) (i := 0) (k := 0) (n := 0) rfl rfl rfl ?_
  refine kw_iload_n (pc := 1) (i := 1) (k := 1) (n := 1) rfl rfl rfl ?_
  refine kw_callV (pc := 2) (i := 2) (Y := mX8_askedRow) (a := 0) (As := [.int a]) (st := []) kw_hE rfl rfl lvX8_112 arX8_askedRow (c_X8_askedRow_0 l T hT0 hT1 σ hI a ) (by decide) (Nat.le_of_ble_eq_true rfl) rfl (fun v S2 p1 => ?_)
  obtain ⟨⟨I6, F7⟩, z5, rfl, f3, ef4⟩ := p1
  have F8 : kw_FM [1, 2, 1000] σ S2 := kw_FM.tr hF0 F7 (by decide)
  have w_9 : (S2.1 0 27).toInt = (σ.1 0 27).toInt := congrArg Int32.toInt (kw_FM.at0 (j := 27) F7 (by decide))
  replace hF := kf_be ef4 hF
  have r_z5 := kw_rng z5
  show kw_AW l 4 kw_E0 KM mX8_tear (p_X8_tear_0 T σ a) 5 [(0, .ref 0), (1, .int a)] [.int z5] S2
  refine kw_istore_n (pc := 5) (i := 3) (n := 2) (lv' := [(2, .int z5), (0, .ref 0), (1, .int a)]) rfl rfl (by decide) rfl ?_
  refine kw_iload_n (pc := 6) (i := 4) (k := 0) (n := 2) rfl rfl rfl ?_
  refine kw_if_ge (pc := 7) (i := 5) (tgt := 12) rfl rfl (fun c10 => ?_) (fun c10 => ?_)
  · replace hF := kf_nl c10 hF
    refine kw_aload_n (pc := 12) (i := 8) (k := 1) (n := 0) rfl rfl rfl ?_
    refine kw_get (pc := 13) (i := 9) (v := .ref 2) rfl rfl rfl lkX8_17 (fun _ => rfl) ?_
    refine kw_iload_n (pc := 16) (i := 10) (k := 2) (n := 1) rfl rfl rfl ?_
    refine kw_bipush (pc := 17) (i := 11) (v := (-9)) rfl rfl ?_
    refine kw_iast (pc := 19) (i := 12) (n := 6) rfl rfl (by omega) (by omega) ?_
    have I11 : kw_I (bM T) (kw_ui S2 2 a.toNatClampNeg (-9)) := kw_I_ui I6 (show -9 ≤ ((-9) : Int32).toInt by omega) (show ((-9) : Int32).toInt ≤ 40 by omega)
    have F12 : kw_FM [1, 2, 1000] σ (kw_ui S2 2 a.toNatClampNeg (-9)) := kw_FM_ui F8 (by decide) (by decide)
    refine kw_iconst (pc := 20) (i := 13) (v := 1) rfl rfl ?_
    exact kw_ireturn (pc := 21) (i := 14) (ty := .int) rfl rfl rfl ⟨⟨I11, F12⟩, _, rfl, hF⟩
  · replace hF := kf_p c10 hF
    refine kw_iload_n (pc := 10) (i := 6) (k := 0) (n := 2) rfl rfl rfl ?_
    exact kw_ireturn (pc := 11) (i := 7) (ty := .int) rfl rfl rfl ⟨⟨I6, F8⟩, _, rfl, hF⟩
noncomputable def l_X8_copy_0_136 (a1 : Int32) (a2 : Int32) (a3 : Int32) (a4 : Int32) (a5 : Int32) : Nat → Int32 → kw_S → Int32 × kw_S
  | 0, _, S => (0, S)
  | n + 1, x6, S => if x6.toInt < a5.toInt then (kf_l (a4 + x6) fun z25 => kf_l (S.1 4 x6.toNatClampNeg) fun z26 => kf_l (f_X8_setRow_0 S a3 z25 z26) fun S27 => kf_l (x6 + Int32.ofInt 1) fun z28 => l_X8_copy_0_136 a1 a2 a3 a4 a5 n z28 S27) else (((1 : Int32), S))
theorem l_X8_copy_0_136_s (a1 : Int32) (a2 : Int32) (a3 : Int32) (a4 : Int32) (a5 : Int32) (n : Nat) (x6 : Int32) (S : kw_S) : l_X8_copy_0_136 a1 a2 a3 a4 a5 (n + 1) x6 S = if x6.toInt < a5.toInt then (kf_l (a4 + x6) fun z25 => kf_l (S.1 4 x6.toNatClampNeg) fun z26 => kf_l (f_X8_setRow_0 S a3 z25 z26) fun S27 => kf_l (x6 + Int32.ofInt 1) fun z28 => l_X8_copy_0_136 a1 a2 a3 a4 a5 n z28 S27) else (((1 : Int32), S)) := rfl
noncomputable def l_X8_copy_0_104 (a1 : Int32) (a2 : Int32) (a3 : Int32) (a4 : Int32) (a5 : Int32) : Nat → Int32 → kw_S → Int32 × kw_S
  | 0, _, S => (0, S)
  | n + 1, x6, S => if x6.toInt < a5.toInt then (kf_l (a2 + x6) fun z29 => kf_l (f_X8_rowAt_0 S a1 z29) fun z30 => kf_l (x6 + Int32.ofInt 1) fun z31 => l_X8_copy_0_104 a1 a2 a3 a4 a5 n z31 (kw_ui S 4 x6.toNatClampNeg z30)) else (l_X8_copy_0_136 a1 a2 a3 a4 a5 ((a5.toInt - (0 : Int32).toInt).toNat + 1) (0 : Int32) S)
theorem l_X8_copy_0_104_s (a1 : Int32) (a2 : Int32) (a3 : Int32) (a4 : Int32) (a5 : Int32) (n : Nat) (x6 : Int32) (S : kw_S) : l_X8_copy_0_104 a1 a2 a3 a4 a5 (n + 1) x6 S = if x6.toInt < a5.toInt then (kf_l (a2 + x6) fun z29 => kf_l (f_X8_rowAt_0 S a1 z29) fun z30 => kf_l (x6 + Int32.ofInt 1) fun z31 => l_X8_copy_0_104 a1 a2 a3 a4 a5 n z31 (kw_ui S 4 x6.toNatClampNeg z30)) else (l_X8_copy_0_136 a1 a2 a3 a4 a5 ((a5.toInt - (0 : Int32).toInt).toNat + 1) (0 : Int32) S) := rfl
noncomputable def f_X8_copy_0 (σ : kw_S) (a : Int32) (i : Int32) (t : Int32) (j : Int32) (n : Int32) : Int32 × kw_S := kf_l (f_X8_isRow σ a) fun z1 => if z1.toInt = 0 then ((((-1) : Int32), σ)) else (kf_l (f_X8_isRow σ t) fun z2 => if z2.toInt = 0 then ((((-1) : Int32), σ)) else (if n.toInt < 0 then (kf_b (f_X8_meet_0 σ (5 : Int32)) fun z36 S37 => (z36, S37)) else (kf_l (σ.1 2 a.toNatClampNeg) fun z3 => if z3.toInt < 0 then (kf_b (f_X8_meet_0 σ (1 : Int32)) fun z4 S5 => (z4, S5)) else (kf_l (σ.1 2 t.toNatClampNeg) fun z6 => if z6.toInt < 0 then (kf_b (f_X8_meet_0 σ (1 : Int32)) fun z34 S35 => (z34, S35)) else (if i.toInt < 0 then (kf_b (f_X8_meet_0 σ (2 : Int32)) fun z7 S8 => (z7, S8)) else (if j.toInt < 0 then (kf_b (f_X8_meet_0 σ (2 : Int32)) fun z9 S10 => (z9, S10)) else (kf_l i.toInt64 fun z11 => kf_l n.toInt64 fun z12 => kf_l (z11 + z12) fun z13 => kf_l (σ.1 2 a.toNatClampNeg) fun z14 => kf_l z14.toInt64 fun z15 => kf_l (lg_cmp z13 z15) fun z16 => if 0 < z16.toInt then (kf_b (f_X8_meet_0 σ (2 : Int32)) fun z17 S18 => (z17, S18)) else (kf_l j.toInt64 fun z19 => kf_l n.toInt64 fun z20 => kf_l (z19 + z20) fun z21 => kf_l (σ.1 2 t.toNatClampNeg) fun z22 => kf_l z22.toInt64 fun z23 => kf_l (lg_cmp z21 z23) fun z24 => if 0 < z24.toInt then (kf_b (f_X8_meet_0 σ (2 : Int32)) fun z32 S33 => (z32, S33)) else (l_X8_copy_0_104 a i t j n ((n.toInt - (0 : Int32).toInt).toNat + 1) (0 : Int32) σ)))))))))
theorem f_X8_copy_0_u (σ : kw_S) (a : Int32) (i : Int32) (t : Int32) (j : Int32) (n : Int32) : f_X8_copy_0 σ a i t j n = kf_l (f_X8_isRow σ a) fun z1 => if z1.toInt = 0 then ((((-1) : Int32), σ)) else (kf_l (f_X8_isRow σ t) fun z2 => if z2.toInt = 0 then ((((-1) : Int32), σ)) else (if n.toInt < 0 then (kf_b (f_X8_meet_0 σ (5 : Int32)) fun z36 S37 => (z36, S37)) else (kf_l (σ.1 2 a.toNatClampNeg) fun z3 => if z3.toInt < 0 then (kf_b (f_X8_meet_0 σ (1 : Int32)) fun z4 S5 => (z4, S5)) else (kf_l (σ.1 2 t.toNatClampNeg) fun z6 => if z6.toInt < 0 then (kf_b (f_X8_meet_0 σ (1 : Int32)) fun z34 S35 => (z34, S35)) else (if i.toInt < 0 then (kf_b (f_X8_meet_0 σ (2 : Int32)) fun z7 S8 => (z7, S8)) else (if j.toInt < 0 then (kf_b (f_X8_meet_0 σ (2 : Int32)) fun z9 S10 => (z9, S10)) else (kf_l i.toInt64 fun z11 => kf_l n.toInt64 fun z12 => kf_l (z11 + z12) fun z13 => kf_l (σ.1 2 a.toNatClampNeg) fun z14 => kf_l z14.toInt64 fun z15 => kf_l (lg_cmp z13 z15) fun z16 => if 0 < z16.toInt then (kf_b (f_X8_meet_0 σ (2 : Int32)) fun z17 S18 => (z17, S18)) else (kf_l j.toInt64 fun z19 => kf_l n.toInt64 fun z20 => kf_l (z19 + z20) fun z21 => kf_l (σ.1 2 t.toNatClampNeg) fun z22 => kf_l z22.toInt64 fun z23 => kf_l (lg_cmp z21 z23) fun z24 => if 0 < z24.toInt then (kf_b (f_X8_meet_0 σ (2 : Int32)) fun z32 S33 => (z32, S33)) else (l_X8_copy_0_104 a i t j n ((n.toInt - (0 : Int32).toInt).toNat + 1) (0 : Int32) σ))))))))) := rfl
abbrev p_X8_copy_0 (T : Int) (σ : kw_S) (a : Int32) (i : Int32) (t : Int32) (j : Int32) (n : Int32) : Option Value → kw_S → Prop := fun vv σ' => (kw_I (bM T) σ' ∧ kw_FM [1, 3, 4, 1000] σ σ') ∧ ∃ r : Int32, vv = some (.int r) ∧ (r, σ') = f_X8_copy_0 σ a i t j n
set_option maxRecDepth 100000 in
set_option maxHeartbeats 4000000 in
theorem c_X8_copy_0 (l : Launch) (T : Int) (hT0 : 0 ≤ T) (hT1 : T ≤ 3000) (σ : kw_S) (hI : kw_I (bM T) σ) (a : Int32) (i : Int32) (t : Int32) (j : Int32) (n : Int32) : kw_Met l 3 KM mX8_copy [.ref 0, .int a, .int i, .int t, .int j, .int n] σ (p_X8_copy_0 T σ a i t j n) := by
  have r_a := kw_rng a
  have r_i := kw_rng i
  have r_t := kw_rng t
  have r_j := kw_rng j
  have r_n := kw_rng n
  have hF0 : kw_FM [1, 3, 4, 1000] σ σ := kw_FM.rf
  have hF := (f_X8_copy_0_u σ a i t j n).symm
  have q_m1 : (-1 : Int32).toInt = -1 := rfl
  have q_0 : (0 : Int32).toInt = 0 := rfl
  have q_1 : (1 : Int32).toInt = 1 := rfl
  have q_2 : (2 : Int32).toInt = 2 := rfl
  have q_5 : (5 : Int32).toInt = 5 := rfl
  refine kw_Met.of (by decide) rfl tX8_copy (Nat.le_of_ble_eq_true rfl) ?_
  show kw_AW l 3 kw_E0 KM mX8_copy (p_X8_copy_0 T σ a i t j n) 0 [(0, .ref 0), (1, .int a), (2, .int i), (3, .int t), (4, .int j), (5, .int n)] [] σ
  refine kw_iload_n (pc := 0) (i := 0) (k := 1) (n := 1) rfl rfl rfl ?_
  refine kw_callS (pc := 1) (i := 1) (Y := mX8_isRow) (As := [.int a]) (st := []) kw_hE rfl lsX8_97 arX8_isRow (c_X8_isRow l T hT0 hT1 σ hI a ) (by decide) (Nat.le_of_ble_eq_true rfl) rfl (fun v S2 p1 => ?_)
  obtain ⟨e8, z7, rfl, f3, f4, f5, ef6⟩ := p1
  rw [e8]
  replace hF := kf_le ef6 hF
  have r_z7 := kw_rng z7
  show kw_AW l 3 kw_E0 KM mX8_copy (p_X8_copy_0 T σ a i t j n) 4 [(0, .ref 0), (1, .int a), (2, .int i), (3, .int t), (4, .int j), (5, .int n)] [.int z7] σ
  refine kw_if_eq (pc := 4) (i := 2) (tgt := 14) rfl rfl (fun c9 => ?_) (fun c9 => ?_)
  · replace hF := kf_p c9 hF
    refine kw_iconst (pc := 14) (i := 6) (v := (-1)) rfl rfl ?_
    exact kw_ireturn (pc := 15) (i := 7) (ty := .int) rfl rfl rfl ⟨⟨hI, hF0⟩, _, rfl, hF⟩
  · replace hF := kf_n c9 hF
    refine kw_iload_n (pc := 7) (i := 3) (k := 3) (n := 3) rfl rfl rfl ?_
    refine kw_callS (pc := 8) (i := 4) (Y := mX8_isRow) (As := [.int t]) (st := []) kw_hE rfl lsX8_97 arX8_isRow (c_X8_isRow l T hT0 hT1 σ hI t ) (by decide) (Nat.le_of_ble_eq_true rfl) rfl (fun v S11 p10 => ?_)
    obtain ⟨e17, z16, rfl, f12, f13, f14, ef15⟩ := p10
    rw [e17]
    replace hF := kf_le ef15 hF
    have r_z16 := kw_rng z16
    show kw_AW l 3 kw_E0 KM mX8_copy (p_X8_copy_0 T σ a i t j n) 11 [(0, .ref 0), (1, .int a), (2, .int i), (3, .int t), (4, .int j), (5, .int n)] [.int z16] σ
    refine kw_if_ne (pc := 11) (i := 5) (tgt := 16) rfl rfl (fun c18 => ?_) (fun c18 => ?_)
    · replace hF := kf_n c18 hF
      refine kw_iload (pc := 16) (i := 8) (k := 5) (n := 5) rfl rfl ?_
      refine kw_if_ge (pc := 18) (i := 9) (tgt := 27) rfl rfl (fun c19 => ?_) (fun c19 => ?_)
      · replace hF := kf_nl c19 hF
        refine kw_aload_n (pc := 27) (i := 14) (k := 0) (n := 0) rfl rfl rfl ?_
        refine kw_get (pc := 28) (i := 15) (v := .ref 2) rfl rfl rfl lkX8_17 (fun _ => rfl) ?_
        refine kw_iload_n (pc := 31) (i := 16) (k := 1) (n := 1) rfl rfl rfl ?_
        refine kw_iald (pc := 32) (i := 17) (n := 6) rfl rfl (by omega) (by omega) (fun z20 e_z20 => ?_)
        replace hF := kf_le e_z20 hF
        have t_z20 := congrArg Int32.toInt e_z20
        have b_z20 : -9 ≤ z20.toInt ∧ z20.toInt ≤ 40 := by rw [e_z20]; exact hI 2 _
        refine kw_if_lt (pc := 33) (i := 18) (tgt := 45) rfl rfl (fun c21 => ?_) (fun c21 => ?_)
        · replace hF := kf_p c21 hF
          refine kw_aload_n (pc := 45) (i := 24) (k := 0) (n := 0) rfl rfl rfl ?_
          refine kw_iconst (pc := 46) (i := 25) (v := 1) rfl rfl ?_
          refine kw_callV (pc := 47) (i := 26) (Y := mX8_meet) (a := 0) (As := [.int 1]) (st := []) kw_hE rfl rfl lvX8_101 arX8_meet (c_X8_meet_0 l T hT0 hT1 σ hI 1 (by first | omega | decide) (by first | omega | decide)) (by decide) (Nat.le_of_ble_eq_true rfl) rfl (fun v S23 p22 => ?_)
          obtain ⟨⟨I27, F28⟩, z26, rfl, f24, ef25⟩ := p22
          have F29 : kw_FM [1, 3, 4, 1000] σ S23 := kw_FM.tr hF0 F28 (by decide)
          have w_30 : (S23.1 0 27).toInt = (σ.1 0 27).toInt := congrArg Int32.toInt (kw_FM.at0 (j := 27) F28 (by decide))
          replace hF := kf_be ef25 hF
          have r_z26 := kw_rng z26
          show kw_AW l 3 kw_E0 KM mX8_copy (p_X8_copy_0 T σ a i t j n) 50 [(0, .ref 0), (1, .int a), (2, .int i), (3, .int t), (4, .int j), (5, .int n)] [.int z26] S23
          exact kw_ireturn (pc := 50) (i := 27) (ty := .int) rfl rfl rfl ⟨⟨I27, F29⟩, _, rfl, hF⟩
        · replace hF := kf_nl c21 hF
          refine kw_aload_n (pc := 36) (i := 19) (k := 0) (n := 0) rfl rfl rfl ?_
          refine kw_get (pc := 37) (i := 20) (v := .ref 2) rfl rfl rfl lkX8_17 (fun _ => rfl) ?_
          refine kw_iload_n (pc := 40) (i := 21) (k := 3) (n := 3) rfl rfl rfl ?_
          refine kw_iald (pc := 41) (i := 22) (n := 6) rfl rfl (by omega) (by omega) (fun z31 e_z31 => ?_)
          replace hF := kf_le e_z31 hF
          have t_z31 := congrArg Int32.toInt e_z31
          have b_z31 : -9 ≤ z31.toInt ∧ z31.toInt ≤ 40 := by rw [e_z31]; exact hI 2 _
          refine kw_if_ge (pc := 42) (i := 23) (tgt := 51) rfl rfl (fun c32 => ?_) (fun c32 => ?_)
          · replace hF := kf_nl c32 hF
            refine kw_iload_n (pc := 51) (i := 28) (k := 2) (n := 2) rfl rfl rfl ?_
            refine kw_if_lt (pc := 52) (i := 29) (tgt := 95) rfl rfl (fun c33 => ?_) (fun c33 => ?_)
            · replace hF := kf_p c33 hF
              refine kw_aload_n (pc := 95) (i := 56) (k := 0) (n := 0) rfl rfl rfl ?_
              refine kw_iconst (pc := 96) (i := 57) (v := 2) rfl rfl ?_
              refine kw_callV (pc := 97) (i := 58) (Y := mX8_meet) (a := 0) (As := [.int 2]) (st := []) kw_hE rfl rfl lvX8_101 arX8_meet (c_X8_meet_0 l T hT0 hT1 σ hI 2 (by first | omega | decide) (by first | omega | decide)) (by decide) (Nat.le_of_ble_eq_true rfl) rfl (fun v S35 p34 => ?_)
              obtain ⟨⟨I39, F40⟩, z38, rfl, f36, ef37⟩ := p34
              have F41 : kw_FM [1, 3, 4, 1000] σ S35 := kw_FM.tr hF0 F40 (by decide)
              have w_42 : (S35.1 0 27).toInt = (σ.1 0 27).toInt := congrArg Int32.toInt (kw_FM.at0 (j := 27) F40 (by decide))
              replace hF := kf_be ef37 hF
              have r_z38 := kw_rng z38
              show kw_AW l 3 kw_E0 KM mX8_copy (p_X8_copy_0 T σ a i t j n) 100 [(0, .ref 0), (1, .int a), (2, .int i), (3, .int t), (4, .int j), (5, .int n)] [.int z38] S35
              exact kw_ireturn (pc := 100) (i := 59) (ty := .int) rfl rfl rfl ⟨⟨I39, F41⟩, _, rfl, hF⟩
            · replace hF := kf_nl c33 hF
              refine kw_iload (pc := 55) (i := 30) (k := 4) (n := 4) rfl rfl ?_
              refine kw_if_lt (pc := 57) (i := 31) (tgt := 95) rfl rfl (fun c43 => ?_) (fun c43 => ?_)
              · replace hF := kf_p c43 hF
                refine kw_aload_n (pc := 95) (i := 56) (k := 0) (n := 0) rfl rfl rfl ?_
                refine kw_iconst (pc := 96) (i := 57) (v := 2) rfl rfl ?_
                refine kw_callV (pc := 97) (i := 58) (Y := mX8_meet) (a := 0) (As := [.int 2]) (st := []) kw_hE rfl rfl lvX8_101 arX8_meet (c_X8_meet_0 l T hT0 hT1 σ hI 2 (by first | omega | decide) (by first | omega | decide)) (by decide) (Nat.le_of_ble_eq_true rfl) rfl (fun v S45 p44 => ?_)
                obtain ⟨⟨I49, F50⟩, z48, rfl, f46, ef47⟩ := p44
                have F51 : kw_FM [1, 3, 4, 1000] σ S45 := kw_FM.tr hF0 F50 (by decide)
                have w_52 : (S45.1 0 27).toInt = (σ.1 0 27).toInt := congrArg Int32.toInt (kw_FM.at0 (j := 27) F50 (by decide))
                replace hF := kf_be ef47 hF
                have r_z48 := kw_rng z48
                show kw_AW l 3 kw_E0 KM mX8_copy (p_X8_copy_0 T σ a i t j n) 100 [(0, .ref 0), (1, .int a), (2, .int i), (3, .int t), (4, .int j), (5, .int n)] [.int z48] S45
                exact kw_ireturn (pc := 100) (i := 59) (ty := .int) rfl rfl rfl ⟨⟨I49, F51⟩, _, rfl, hF⟩
              · replace hF := kf_nl c43 hF
                refine kw_iload_n (pc := 60) (i := 32) (k := 2) (n := 2) rfl rfl rfl ?_
                refine kw_i2l (pc := 61) (i := 33) rfl (fun z53 e_z53 t_z53 => ?_)
                replace hF := kf_le e_z53 hF
                refine kw_iload (pc := 62) (i := 34) (k := 5) (n := 5) rfl rfl ?_
                refine kw_i2l (pc := 64) (i := 35) rfl (fun z54 e_z54 t_z54 => ?_)
                replace hF := kf_le e_z54 hF
                refine kw_ladd (pc := 65) (i := 36) rfl (fun z55 e_z55 => ?_)
                replace hF := kf_le e_z55 hF
                have t_z55 := kw_laddI z53 z54 z55 e_z55
                first | (have u_z55 : z55.toInt = z53.toInt + z54.toInt := (by omega); clear t_z55) | skip
                refine kw_aload_n (pc := 66) (i := 37) (k := 0) (n := 0) rfl rfl rfl ?_
                refine kw_get (pc := 67) (i := 38) (v := .ref 2) rfl rfl rfl lkX8_17 (fun _ => rfl) ?_
                refine kw_iload_n (pc := 70) (i := 39) (k := 1) (n := 1) rfl rfl rfl ?_
                refine kw_iald (pc := 71) (i := 40) (n := 6) rfl rfl (by omega) (by omega) (fun z56 e_z56 => ?_)
                replace hF := kf_le e_z56 hF
                have t_z56 := congrArg Int32.toInt e_z56
                have b_z56 : -9 ≤ z56.toInt ∧ z56.toInt ≤ 40 := by rw [e_z56]; exact hI 2 _
                refine kw_i2l (pc := 72) (i := 41) rfl (fun z57 e_z57 t_z57 => ?_)
                replace hF := kf_le e_z57 hF
                refine kw_lcmp (pc := 73) (i := 42) rfl (fun z58 e_z58 t_z58 => ?_)
                replace hF := kf_le e_z58 hF
                refine kw_if_gt (pc := 74) (i := 43) (tgt := 95) rfl rfl (fun c59 => ?_) (fun c59 => ?_)
                · replace hF := kf_p c59 hF
                  refine kw_aload_n (pc := 95) (i := 56) (k := 0) (n := 0) rfl rfl rfl ?_
                  refine kw_iconst (pc := 96) (i := 57) (v := 2) rfl rfl ?_
                  refine kw_callV (pc := 97) (i := 58) (Y := mX8_meet) (a := 0) (As := [.int 2]) (st := []) kw_hE rfl rfl lvX8_101 arX8_meet (c_X8_meet_0 l T hT0 hT1 σ hI 2 (by first | omega | decide) (by first | omega | decide)) (by decide) (Nat.le_of_ble_eq_true rfl) rfl (fun v S61 p60 => ?_)
                  obtain ⟨⟨I65, F66⟩, z64, rfl, f62, ef63⟩ := p60
                  have F67 : kw_FM [1, 3, 4, 1000] σ S61 := kw_FM.tr hF0 F66 (by decide)
                  have w_68 : (S61.1 0 27).toInt = (σ.1 0 27).toInt := congrArg Int32.toInt (kw_FM.at0 (j := 27) F66 (by decide))
                  replace hF := kf_be ef63 hF
                  have r_z64 := kw_rng z64
                  show kw_AW l 3 kw_E0 KM mX8_copy (p_X8_copy_0 T σ a i t j n) 100 [(0, .ref 0), (1, .int a), (2, .int i), (3, .int t), (4, .int j), (5, .int n)] [.int z64] S61
                  exact kw_ireturn (pc := 100) (i := 59) (ty := .int) rfl rfl rfl ⟨⟨I65, F67⟩, _, rfl, hF⟩
                · replace hF := kf_nl c59 hF
                  refine kw_iload (pc := 77) (i := 44) (k := 4) (n := 4) rfl rfl ?_
                  refine kw_i2l (pc := 79) (i := 45) rfl (fun z69 e_z69 t_z69 => ?_)
                  replace hF := kf_le e_z69 hF
                  refine kw_iload (pc := 80) (i := 46) (k := 5) (n := 5) rfl rfl ?_
                  refine kw_i2l (pc := 82) (i := 47) rfl (fun z70 e_z70 t_z70 => ?_)
                  replace hF := kf_le e_z70 hF
                  refine kw_ladd (pc := 83) (i := 48) rfl (fun z71 e_z71 => ?_)
                  replace hF := kf_le e_z71 hF
                  have t_z71 := kw_laddI z69 z70 z71 e_z71
                  first | (have u_z71 : z71.toInt = z69.toInt + z70.toInt := (by omega); clear t_z71) | skip
                  refine kw_aload_n (pc := 84) (i := 49) (k := 0) (n := 0) rfl rfl rfl ?_
                  refine kw_get (pc := 85) (i := 50) (v := .ref 2) rfl rfl rfl lkX8_17 (fun _ => rfl) ?_
                  refine kw_iload_n (pc := 88) (i := 51) (k := 3) (n := 3) rfl rfl rfl ?_
                  refine kw_iald (pc := 89) (i := 52) (n := 6) rfl rfl (by omega) (by omega) (fun z72 e_z72 => ?_)
                  replace hF := kf_le e_z72 hF
                  have t_z72 := congrArg Int32.toInt e_z72
                  have b_z72 : -9 ≤ z72.toInt ∧ z72.toInt ≤ 40 := by rw [e_z72]; exact hI 2 _
                  refine kw_i2l (pc := 90) (i := 53) rfl (fun z73 e_z73 t_z73 => ?_)
                  replace hF := kf_le e_z73 hF
                  refine kw_lcmp (pc := 91) (i := 54) rfl (fun z74 e_z74 t_z74 => ?_)
                  replace hF := kf_le e_z74 hF
                  refine kw_if_le (pc := 92) (i := 55) (tgt := 101) rfl rfl (fun c75 => ?_) (fun c75 => ?_)
                  · replace hF := kf_nl c75 hF
                    refine kw_iconst (pc := 101) (i := 60) (v := 0) rfl rfl ?_
                    refine kw_istore (pc := 102) (i := 61) (n := 6) (lv' := [(6, .int 0), (0, .ref 0), (1, .int a), (2, .int i), (3, .int t), (4, .int j), (5, .int n)]) rfl (by decide) rfl ?_
                    have L80 : ∀ (n84 : Nat) (x76 : Int32) (S77 : kw_S), kw_I (bM T) S77 → kw_FM [1, 3, 4, 1000] σ S77 → 0 ≤ x76.toInt → l_X8_copy_0_104 a i t j n n84 x76 S77 = (f_X8_copy_0 σ a i t j n) → (n.toInt - x76.toInt).toNat < n84 → kw_AW l 3 kw_E0 KM mX8_copy (p_X8_copy_0 T σ a i t j n) 104 [(6, .int x76), (0, .ref 0), (1, .int a), (2, .int i), (3, .int t), (4, .int j), (5, .int n)] [] S77 := by
                      intro n84
                      induction n84 with
                      | zero => intro x76 S77 I78 F79 v82 hF m83; exact absurd m83 (Nat.not_lt_zero _)
                      | succ n84 ih81 =>
                        intro x76 S77 I78 F79 v82 hF m83
                        replace hF := kf_st (l_X8_copy_0_104_s _ _ _ _ _ _ _ _) hF
                        have r_x76 := kw_rng x76
                        refine kw_iload (pc := 104) (i := 62) (k := 0) (n := 6) rfl rfl ?_
                        refine kw_iload (pc := 106) (i := 63) (k := 6) (n := 5) rfl rfl ?_
                        refine kw_icmp_ge (pc := 108) (i := 64) (tgt := 133) rfl rfl (fun c85 => ?_) (fun c85 => ?_)
                        · replace hF := kf_nl c85 hF
                          refine kw_iconst (pc := 133) (i := 77) (v := 0) rfl rfl ?_
                          refine kw_istore (pc := 134) (i := 78) (n := 6) (lv' := [(6, .int 0), (0, .ref 0), (1, .int a), (2, .int i), (3, .int t), (4, .int j), (5, .int n)]) rfl (by decide) rfl ?_
                          have L90 : ∀ (n94 : Nat) (x86 : Int32) (S87 : kw_S), kw_I (bM T) S87 → kw_FM [1, 3, 4, 1000] σ S87 → 0 ≤ x86.toInt → l_X8_copy_0_136 a i t j n n94 x86 S87 = (f_X8_copy_0 σ a i t j n) → (n.toInt - x86.toInt).toNat < n94 → kw_AW l 3 kw_E0 KM mX8_copy (p_X8_copy_0 T σ a i t j n) 136 [(6, .int x86), (0, .ref 0), (1, .int a), (2, .int i), (3, .int t), (4, .int j), (5, .int n)] [] S87 := by
                            intro n94
                            induction n94 with
                            | zero => intro x86 S87 I88 F89 v92 hF m93; exact absurd m93 (Nat.not_lt_zero _)
                            | succ n94 ih91 =>
                              intro x86 S87 I88 F89 v92 hF m93
                              replace hF := kf_st (l_X8_copy_0_136_s _ _ _ _ _ _ _ _) hF
                              have r_x86 := kw_rng x86
                              refine kw_iload (pc := 136) (i := 79) (k := 0) (n := 6) rfl rfl ?_
                              refine kw_iload (pc := 138) (i := 80) (k := 6) (n := 5) rfl rfl ?_
                              refine kw_icmp_ge (pc := 140) (i := 81) (tgt := 166) rfl rfl (fun c95 => ?_) (fun c95 => ?_)
                              · replace hF := kf_nl c95 hF
                                refine kw_iconst (pc := 166) (i := 94) (v := 1) rfl rfl ?_
                                exact kw_ireturn (pc := 167) (i := 95) (ty := .int) rfl rfl rfl ⟨⟨I88, F89⟩, _, rfl, hF⟩
                              · replace hF := kf_p c95 hF
                                refine kw_aload_n (pc := 143) (i := 82) (k := 1) (n := 0) rfl rfl rfl ?_
                                refine kw_iload_n (pc := 144) (i := 83) (k := 4) (n := 3) rfl rfl rfl ?_
                                refine kw_iload (pc := 145) (i := 84) (k := 5) (n := 4) rfl rfl ?_
                                refine kw_iload (pc := 147) (i := 85) (k := 0) (n := 6) rfl rfl ?_
                                refine kw_iadd (pc := 149) (i := 86) rfl (fun z96 e_z96 t_z96 => ?_)
                                replace hF := kf_le e_z96 hF
                                first | (have u_z96 : z96.toInt = j.toInt + x86.toInt := (by omega); clear t_z96) | skip
                                refine kw_aload_n (pc := 150) (i := 87) (k := 1) (n := 0) rfl rfl rfl ?_
                                refine kw_get (pc := 151) (i := 88) (v := .ref 4) rfl rfl rfl lkX8_23 (fun _ => rfl) ?_
                                refine kw_iload (pc := 154) (i := 89) (k := 0) (n := 6) rfl rfl ?_
                                refine kw_iald (pc := 156) (i := 90) (n := 40) rfl rfl (by omega) (by omega) (fun z97 e_z97 => ?_)
                                replace hF := kf_le e_z97 hF
                                have t_z97 := congrArg Int32.toInt e_z97
                                have r_z97 := kw_rng z97
                                refine kw_callV (pc := 157) (i := 91) (Y := mX8_setRow) (a := 0) (As := [.int t, .int z96, .int z97]) (st := []) kw_hE rfl rfl lvX8_108 arX8_setRow (c_X8_setRow_0 l T hT0 hT1 S87 I88 t z96 z97 (by first | omega | decide) (by first | omega | decide) (by first | omega | decide) (by first | omega | decide)) (by decide) (Nat.le_of_ble_eq_true rfl) rfl (fun v S99 p98 => ?_)
                                obtain ⟨⟨I101, F102⟩, rfl, ef100⟩ := p98
                                have F103 : kw_FM [1, 3, 4, 1000] σ S99 := kw_FM.tr F89 F102 (by decide)
                                have w_104 : (S99.1 0 27).toInt = (S87.1 0 27).toInt := congrArg Int32.toInt (kw_FM.at0 (j := 27) F102 (by decide))
                                replace hF := kf_le ef100 hF
                                show kw_AW l 3 kw_E0 KM mX8_copy (p_X8_copy_0 T σ a i t j n) 160 [(6, .int x86), (0, .ref 0), (1, .int a), (2, .int i), (3, .int t), (4, .int j), (5, .int n)] [] S99
                                refine kw_iinc' (pc := 160) (i := 92) (k := 0) (fun z => [(6, .int z), (0, .ref 0), (1, .int a), (2, .int i), (3, .int t), (4, .int j), (5, .int n)]) rfl rfl (by decide) rfl (fun _ => rfl) (fun z105 e_z105 t_z105 => ?_)
                                replace hF := kf_le e_z105 hF
                                first | (have u_z105 : z105.toInt = x86.toInt + 1 := (by omega); clear t_z105) | skip
                                refine kw_goto (pc := 163) (i := 93) (tgt := 136) rfl rfl ?_
                                refine kw_sub (lv' := [(6, .int z105), (0, .ref 0), (1, .int a), (2, .int i), (3, .int t), (4, .int j), (5, .int n)]) [0, 1, 2, 3, 4, 5, 6] rfl ?_
                                exact ih91 z105 S99 I101 F103 (by omega) hF (by omega)
                          exact L90 _ 0 S77 I78 F79 (by omega) hF (Nat.lt_succ_self _)
                        · replace hF := kf_p c85 hF
                          refine kw_aload_n (pc := 111) (i := 65) (k := 1) (n := 0) rfl rfl rfl ?_
                          refine kw_get (pc := 112) (i := 66) (v := .ref 4) rfl rfl rfl lkX8_23 (fun _ => rfl) ?_
                          refine kw_iload (pc := 115) (i := 67) (k := 0) (n := 6) rfl rfl ?_
                          refine kw_aload_n (pc := 117) (i := 68) (k := 1) (n := 0) rfl rfl rfl ?_
                          refine kw_iload_n (pc := 118) (i := 69) (k := 2) (n := 1) rfl rfl rfl ?_
                          refine kw_iload_n (pc := 119) (i := 70) (k := 3) (n := 2) rfl rfl rfl ?_
                          refine kw_iload (pc := 120) (i := 71) (k := 0) (n := 6) rfl rfl ?_
                          refine kw_iadd (pc := 122) (i := 72) rfl (fun z106 e_z106 t_z106 => ?_)
                          replace hF := kf_le e_z106 hF
                          first | (have u_z106 : z106.toInt = i.toInt + x76.toInt := (by omega); clear t_z106) | skip
                          refine kw_callV (pc := 123) (i := 73) (Y := mX8_rowAt) (a := 0) (As := [.int a, .int z106]) (st := [.int x76, .ref 4]) kw_hE rfl rfl lvX8_115 arX8_rowAt (c_X8_rowAt_0 l T hT0 hT1 S77 I78 a z106 (by first | omega | decide) (by first | omega | decide) (by first | omega | decide) (by first | omega | decide)) (by decide) (Nat.le_of_ble_eq_true rfl) rfl (fun v S108 p107 => ?_)
                          obtain ⟨e111, z110, rfl, ef109⟩ := p107
                          rw [e111]
                          replace hF := kf_le ef109 hF
                          have r_z110 := kw_rng z110
                          show kw_AW l 3 kw_E0 KM mX8_copy (p_X8_copy_0 T σ a i t j n) 126 [(6, .int x76), (0, .ref 0), (1, .int a), (2, .int i), (3, .int t), (4, .int j), (5, .int n)] [.int z110, .int x76, .ref 4] S77
                          refine kw_iast (pc := 126) (i := 74) (n := 40) rfl rfl (by omega) (by omega) ?_
                          have I112 : kw_I (bM T) (kw_ui S77 4 x76.toNatClampNeg z110) := kw_I_ui I78 (kw_rng z110).1 (Int.le_of_lt_add_one (kw_rng z110).2)
                          have F113 : kw_FM [1, 3, 4, 1000] σ (kw_ui S77 4 x76.toNatClampNeg z110) := kw_FM_ui F79 (by decide) (by decide)
                          refine kw_iinc' (pc := 127) (i := 75) (k := 0) (fun z => [(6, .int z), (0, .ref 0), (1, .int a), (2, .int i), (3, .int t), (4, .int j), (5, .int n)]) rfl rfl (by decide) rfl (fun _ => rfl) (fun z114 e_z114 t_z114 => ?_)
                          replace hF := kf_le e_z114 hF
                          first | (have u_z114 : z114.toInt = x76.toInt + 1 := (by omega); clear t_z114) | skip
                          refine kw_goto (pc := 130) (i := 76) (tgt := 104) rfl rfl ?_
                          refine kw_sub (lv' := [(6, .int z114), (0, .ref 0), (1, .int a), (2, .int i), (3, .int t), (4, .int j), (5, .int n)]) [0, 1, 2, 3, 4, 5, 6] rfl ?_
                          exact ih81 z114 (kw_ui S77 4 x76.toNatClampNeg z110) I112 F113 (by omega) hF (by omega)
                    exact L80 _ 0 σ hI hF0 (by omega) hF (Nat.lt_succ_self _)
                  · replace hF := kf_p c75 hF
                    refine kw_aload_n (pc := 95) (i := 56) (k := 0) (n := 0) rfl rfl rfl ?_
                    refine kw_iconst (pc := 96) (i := 57) (v := 2) rfl rfl ?_
                    refine kw_callV (pc := 97) (i := 58) (Y := mX8_meet) (a := 0) (As := [.int 2]) (st := []) kw_hE rfl rfl lvX8_101 arX8_meet (c_X8_meet_0 l T hT0 hT1 σ hI 2 (by first | omega | decide) (by first | omega | decide)) (by decide) (Nat.le_of_ble_eq_true rfl) rfl (fun v S116 p115 => ?_)
                    obtain ⟨⟨I120, F121⟩, z119, rfl, f117, ef118⟩ := p115
                    have F122 : kw_FM [1, 3, 4, 1000] σ S116 := kw_FM.tr hF0 F121 (by decide)
                    have w_123 : (S116.1 0 27).toInt = (σ.1 0 27).toInt := congrArg Int32.toInt (kw_FM.at0 (j := 27) F121 (by decide))
                    replace hF := kf_be ef118 hF
                    have r_z119 := kw_rng z119
                    show kw_AW l 3 kw_E0 KM mX8_copy (p_X8_copy_0 T σ a i t j n) 100 [(0, .ref 0), (1, .int a), (2, .int i), (3, .int t), (4, .int j), (5, .int n)] [.int z119] S116
                    exact kw_ireturn (pc := 100) (i := 59) (ty := .int) rfl rfl rfl ⟨⟨I120, F122⟩, _, rfl, hF⟩
          · replace hF := kf_p c32 hF
            refine kw_aload_n (pc := 45) (i := 24) (k := 0) (n := 0) rfl rfl rfl ?_
            refine kw_iconst (pc := 46) (i := 25) (v := 1) rfl rfl ?_
            refine kw_callV (pc := 47) (i := 26) (Y := mX8_meet) (a := 0) (As := [.int 1]) (st := []) kw_hE rfl rfl lvX8_101 arX8_meet (c_X8_meet_0 l T hT0 hT1 σ hI 1 (by first | omega | decide) (by first | omega | decide)) (by decide) (Nat.le_of_ble_eq_true rfl) rfl (fun v S125 p124 => ?_)
            obtain ⟨⟨I129, F130⟩, z128, rfl, f126, ef127⟩ := p124
            have F131 : kw_FM [1, 3, 4, 1000] σ S125 := kw_FM.tr hF0 F130 (by decide)
            have w_132 : (S125.1 0 27).toInt = (σ.1 0 27).toInt := congrArg Int32.toInt (kw_FM.at0 (j := 27) F130 (by decide))
            replace hF := kf_be ef127 hF
            have r_z128 := kw_rng z128
            show kw_AW l 3 kw_E0 KM mX8_copy (p_X8_copy_0 T σ a i t j n) 50 [(0, .ref 0), (1, .int a), (2, .int i), (3, .int t), (4, .int j), (5, .int n)] [.int z128] S125
            exact kw_ireturn (pc := 50) (i := 27) (ty := .int) rfl rfl rfl ⟨⟨I129, F131⟩, _, rfl, hF⟩
      · replace hF := kf_p c19 hF
        refine kw_aload_n (pc := 21) (i := 10) (k := 0) (n := 0) rfl rfl rfl ?_
        refine kw_iconst (pc := 22) (i := 11) (v := 5) rfl rfl ?_
        refine kw_callV (pc := 23) (i := 12) (Y := mX8_meet) (a := 0) (As := [.int 5]) (st := []) kw_hE rfl rfl lvX8_101 arX8_meet (c_X8_meet_0 l T hT0 hT1 σ hI 5 (by first | omega | decide) (by first | omega | decide)) (by decide) (Nat.le_of_ble_eq_true rfl) rfl (fun v S134 p133 => ?_)
        obtain ⟨⟨I138, F139⟩, z137, rfl, f135, ef136⟩ := p133
        have F140 : kw_FM [1, 3, 4, 1000] σ S134 := kw_FM.tr hF0 F139 (by decide)
        have w_141 : (S134.1 0 27).toInt = (σ.1 0 27).toInt := congrArg Int32.toInt (kw_FM.at0 (j := 27) F139 (by decide))
        replace hF := kf_be ef136 hF
        have r_z137 := kw_rng z137
        show kw_AW l 3 kw_E0 KM mX8_copy (p_X8_copy_0 T σ a i t j n) 26 [(0, .ref 0), (1, .int a), (2, .int i), (3, .int t), (4, .int j), (5, .int n)] [.int z137] S134
        exact kw_ireturn (pc := 26) (i := 13) (ty := .int) rfl rfl rfl ⟨⟨I138, F140⟩, _, rfl, hF⟩
    · replace hF := kf_p c18 hF
      refine kw_iconst (pc := 14) (i := 6) (v := (-1)) rfl rfl ?_
      exact kw_ireturn (pc := 15) (i := 7) (ty := .int) rfl rfl rfl ⟨⟨hI, hF0⟩, _, rfl, hF⟩
noncomputable def l_X8_mean_0_17 (a1 : Int32) (a2 : Int32) (S : kw_S) : Nat → Int64 → Int32 → Int32 × kw_S
  | 0, _, _ => (0, S)
  | n + 1, x3, x5 => kf_l (S.1 2 a1.toNatClampNeg) fun z3 => if x5.toInt < z3.toInt then (kf_l (f_X8_rowAt_0 S a1 x5) fun z13 => kf_l z13.toInt64 fun z14 => kf_l (x3 + z14) fun z15 => kf_l (x5 + Int32.ofInt 1) fun z16 => l_X8_mean_0_17 a1 a2 S n z15 z16) else (kf_l (S.1 2 a1.toNatClampNeg) fun z4 => if z4.toInt = 0 then (kf_b (f_X8_meet_0 S (4 : Int32)) fun z11 S12 => (z11, S12)) else (kf_l (S.1 2 a1.toNatClampNeg) fun z5 => kf_l z5.toInt64 fun z6 => kf_l (x3 / z6) fun z7 => kf_l z7.toInt32 fun z8 => kf_b (f_X8_ask_0 S z8 (1 : Int32)) fun z9 S10 => (z9, S10)))
theorem l_X8_mean_0_17_s (a1 : Int32) (a2 : Int32) (S : kw_S) (n : Nat) (x3 : Int64) (x5 : Int32) : l_X8_mean_0_17 a1 a2 S (n + 1) x3 x5 = kf_l (S.1 2 a1.toNatClampNeg) fun z3 => if x5.toInt < z3.toInt then (kf_l (f_X8_rowAt_0 S a1 x5) fun z13 => kf_l z13.toInt64 fun z14 => kf_l (x3 + z14) fun z15 => kf_l (x5 + Int32.ofInt 1) fun z16 => l_X8_mean_0_17 a1 a2 S n z15 z16) else (kf_l (S.1 2 a1.toNatClampNeg) fun z4 => if z4.toInt = 0 then (kf_b (f_X8_meet_0 S (4 : Int32)) fun z11 S12 => (z11, S12)) else (kf_l (S.1 2 a1.toNatClampNeg) fun z5 => kf_l z5.toInt64 fun z6 => kf_l (x3 / z6) fun z7 => kf_l z7.toInt32 fun z8 => kf_b (f_X8_ask_0 S z8 (1 : Int32)) fun z9 S10 => (z9, S10))) := rfl
noncomputable def f_X8_mean_0 (σ : kw_S) (a : Int32) : Int32 × kw_S := kf_b (f_X8_askedRow_0 σ a) fun z1 S2 => if z1.toInt < 0 then ((z1, S2)) else (l_X8_mean_0_17 a z1 S2 ((41 - (0 : Int32).toInt).toNat + 1) (0 : Int64) (0 : Int32))
theorem f_X8_mean_0_u (σ : kw_S) (a : Int32) : f_X8_mean_0 σ a = kf_b (f_X8_askedRow_0 σ a) fun z1 S2 => if z1.toInt < 0 then ((z1, S2)) else (l_X8_mean_0_17 a z1 S2 ((41 - (0 : Int32).toInt).toNat + 1) (0 : Int64) (0 : Int32)) := rfl
abbrev p_X8_mean_0 (T : Int) (σ : kw_S) (a : Int32) : Option Value → kw_S → Prop := fun vv σ' => (kw_I (bM T) σ' ∧ kw_FM [1, 1000, 1002] σ σ') ∧ ∃ r : Int32, vv = some (.int r) ∧ (r, σ') = f_X8_mean_0 σ a
set_option maxRecDepth 100000 in
set_option maxHeartbeats 4000000 in
theorem c_X8_mean_0 (l : Launch) (T : Int) (hT0 : 0 ≤ T) (hT1 : T ≤ 3000) (σ : kw_S) (hI : kw_I (bM T) σ) (a : Int32) : kw_Met l 4 KM mX8_mean [.ref 0, .int a] σ (p_X8_mean_0 T σ a) := by
  have r_a := kw_rng a
  have hF0 : kw_FM [1, 1000, 1002] σ σ := kw_FM.rf
  have hF := (f_X8_mean_0_u σ a).symm
  have q_0 : (0 : Int32).toInt = 0 := rfl
  have q_1 : (1 : Int32).toInt = 1 := rfl
  have q_4 : (4 : Int32).toInt = 4 := rfl
  refine kw_Met.of (by decide) rfl tX8_mean (Nat.le_of_ble_eq_true rfl) ?_
  show kw_AW l 4 kw_E0 KM mX8_mean (p_X8_mean_0 T σ a) 0 [(0, .ref 0), (1, .int a)] [] σ
  refine kw_aload_n (pc := 0) (i := 0) (k := 0) (n := 0) rfl rfl rfl ?_
  refine kw_iload_n (pc := 1) (i := 1) (k := 1) (n := 1) rfl rfl rfl ?_
  refine kw_callV (pc := 2) (i := 2) (Y := mX8_askedRow) (a := 0) (As := [.int a]) (st := []) kw_hE rfl rfl lvX8_112 arX8_askedRow (c_X8_askedRow_0 l T hT0 hT1 σ hI a ) (by decide) (Nat.le_of_ble_eq_true rfl) rfl (fun v S2 p1 => ?_)
  obtain ⟨⟨I6, F7⟩, z5, rfl, f3, ef4⟩ := p1
  have F8 : kw_FM [1, 1000, 1002] σ S2 := kw_FM.tr hF0 F7 (by decide)
  have w_9 : (S2.1 0 27).toInt = (σ.1 0 27).toInt := congrArg Int32.toInt (kw_FM.at0 (j := 27) F7 (by decide))
  replace hF := kf_be ef4 hF
  have r_z5 := kw_rng z5
  show kw_AW l 4 kw_E0 KM mX8_mean (p_X8_mean_0 T σ a) 5 [(0, .ref 0), (1, .int a)] [.int z5] S2
  refine kw_istore_n (pc := 5) (i := 3) (n := 2) (lv' := [(2, .int z5), (0, .ref 0), (1, .int a)]) rfl rfl (by decide) rfl ?_
  refine kw_iload_n (pc := 6) (i := 4) (k := 0) (n := 2) rfl rfl rfl ?_
  refine kw_if_ge (pc := 7) (i := 5) (tgt := 12) rfl rfl (fun c10 => ?_) (fun c10 => ?_)
  · replace hF := kf_nl c10 hF
    refine kw_lconst (pc := 12) (i := 8) (v := 0) rfl rfl ?_
    refine kw_lstore_n (pc := 13) (i := 9) (n := 3) (lv' := [(3, .long 0), (2, .int z5), (0, .ref 0), (1, .int a)]) rfl rfl (by decide) rfl ?_
    refine kw_iconst (pc := 14) (i := 10) (v := 0) rfl rfl ?_
    refine kw_istore (pc := 15) (i := 11) (n := 5) (lv' := [(5, .int 0), (3, .long 0), (2, .int z5), (0, .ref 0), (1, .int a)]) rfl (by decide) rfl ?_
    have L13 : ∀ (n17 : Nat) (x11 : Int32) (x12 : Int64), 0 ≤ x11.toInt → l_X8_mean_0_17 a z5 S2 n17 x12 x11 = (f_X8_mean_0 σ a) → (41 - x11.toInt).toNat < n17 → kw_AW l 4 kw_E0 KM mX8_mean (p_X8_mean_0 T σ a) 17 [(5, .int x11), (3, .long x12), (2, .int z5), (0, .ref 0), (1, .int a)] [] S2 := by
      intro n17
      induction n17 with
      | zero => intro x11 x12 v15 hF m16; exact absurd m16 (Nat.not_lt_zero _)
      | succ n17 ih14 =>
        intro x11 x12 v15 hF m16
        replace hF := kf_st (l_X8_mean_0_17_s _ _ _ _ _ _) hF
        have r_x11 := kw_rng x11
        refine kw_iload (pc := 17) (i := 12) (k := 0) (n := 5) rfl rfl ?_
        refine kw_aload_n (pc := 19) (i := 13) (k := 3) (n := 0) rfl rfl rfl ?_
        refine kw_get (pc := 20) (i := 14) (v := .ref 2) rfl rfl rfl lkX8_17 (fun _ => rfl) ?_
        refine kw_iload_n (pc := 23) (i := 15) (k := 4) (n := 1) rfl rfl rfl ?_
        refine kw_iald (pc := 24) (i := 16) (n := 6) rfl rfl (by omega) (by omega) (fun z18 e_z18 => ?_)
        replace hF := kf_le e_z18 hF
        have t_z18 := congrArg Int32.toInt e_z18
        have b_z18 : -9 ≤ z18.toInt ∧ z18.toInt ≤ 40 := by rw [e_z18]; exact I6 2 _
        refine kw_icmp_ge (pc := 25) (i := 17) (tgt := 45) rfl rfl (fun c19 => ?_) (fun c19 => ?_)
        · replace hF := kf_nl c19 hF
          refine kw_aload_n (pc := 45) (i := 28) (k := 3) (n := 0) rfl rfl rfl ?_
          refine kw_get (pc := 46) (i := 29) (v := .ref 2) rfl rfl rfl lkX8_17 (fun _ => rfl) ?_
          refine kw_iload_n (pc := 49) (i := 30) (k := 4) (n := 1) rfl rfl rfl ?_
          refine kw_iald (pc := 50) (i := 31) (n := 6) rfl rfl (by omega) (by omega) (fun z20 e_z20 => ?_)
          replace hF := kf_le e_z20 hF
          have t_z20 := congrArg Int32.toInt e_z20
          have b_z20 : -9 ≤ z20.toInt ∧ z20.toInt ≤ 40 := by rw [e_z20]; exact I6 2 _
          refine kw_if_ne (pc := 51) (i := 32) (tgt := 62) rfl rfl (fun c21 => ?_) (fun c21 => ?_)
          · replace hF := kf_n c21 hF
            refine kw_aload_n (pc := 62) (i := 37) (k := 3) (n := 0) rfl rfl rfl ?_
            refine kw_lload_n (pc := 63) (i := 38) (k := 1) (n := 3) rfl rfl rfl ?_
            refine kw_aload_n (pc := 64) (i := 39) (k := 3) (n := 0) rfl rfl rfl ?_
            refine kw_get (pc := 65) (i := 40) (v := .ref 2) rfl rfl rfl lkX8_17 (fun _ => rfl) ?_
            refine kw_iload_n (pc := 68) (i := 41) (k := 4) (n := 1) rfl rfl rfl ?_
            refine kw_iald (pc := 69) (i := 42) (n := 6) rfl rfl (by omega) (by omega) (fun z22 e_z22 => ?_)
            replace hF := kf_le e_z22 hF
            have t_z22 := congrArg Int32.toInt e_z22
            have b_z22 : -9 ≤ z22.toInt ∧ z22.toInt ≤ 40 := by rw [e_z22]; exact I6 2 _
            refine kw_i2l (pc := 70) (i := 43) rfl (fun z23 e_z23 t_z23 => ?_)
            replace hF := kf_le e_z23 hF
            refine kw_ldiv (pc := 71) (i := 44) rfl (by omega) (fun z24 e_z24 => ?_)
            replace hF := kf_le e_z24 hF
            refine kw_l2i (pc := 72) (i := 45) rfl (fun z25 e_z25 => ?_)
            replace hF := kf_le e_z25 hF
            have r_z25 := kw_rng z25
            have t_z25 := kw_l2iI z24 z25 e_z25
            refine kw_iconst (pc := 73) (i := 46) (v := 1) rfl rfl ?_
            refine kw_callV (pc := 74) (i := 47) (Y := mX8_ask) (a := 0) (As := [.int z25, .int 1]) (st := []) kw_hE rfl rfl lvX8_119 arX8_ask (c_X8_ask_0 l T hT0 hT1 S2 I6 z25 1 ) (by decide) (Nat.le_of_ble_eq_true rfl) rfl (fun v S27 p26 => ?_)
            obtain ⟨⟨I31, F32⟩, z30, rfl, f28, ef29⟩ := p26
            have F33 : kw_FM [1, 1000, 1002] σ S27 := kw_FM.tr F8 F32 (by decide)
            have w_34 : (S27.1 0 27).toInt = (S2.1 0 27).toInt := congrArg Int32.toInt (kw_FM.at0 (j := 27) F32 (by decide))
            replace hF := kf_be ef29 hF
            have r_z30 := kw_rng z30
            show kw_AW l 4 kw_E0 KM mX8_mean (p_X8_mean_0 T σ a) 77 [(5, .int x11), (3, .long x12), (2, .int z5), (0, .ref 0), (1, .int a)] [.int z30] S27
            exact kw_ireturn (pc := 77) (i := 48) (ty := .int) rfl rfl rfl ⟨⟨I31, F33⟩, _, rfl, hF⟩
          · replace hF := kf_p c21 hF
            refine kw_aload_n (pc := 54) (i := 33) (k := 3) (n := 0) rfl rfl rfl ?_
            refine kw_iconst (pc := 55) (i := 34) (v := 4) rfl rfl ?_
            refine kw_callV (pc := 56) (i := 35) (Y := mX8_meet) (a := 0) (As := [.int 4]) (st := []) kw_hE rfl rfl lvX8_101 arX8_meet (c_X8_meet_0 l T hT0 hT1 S2 I6 4 (by first | omega | decide) (by first | omega | decide)) (by decide) (Nat.le_of_ble_eq_true rfl) rfl (fun v S36 p35 => ?_)
            obtain ⟨⟨I40, F41⟩, z39, rfl, f37, ef38⟩ := p35
            have F42 : kw_FM [1, 1000, 1002] σ S36 := kw_FM.tr F8 F41 (by decide)
            have w_43 : (S36.1 0 27).toInt = (S2.1 0 27).toInt := congrArg Int32.toInt (kw_FM.at0 (j := 27) F41 (by decide))
            replace hF := kf_be ef38 hF
            have r_z39 := kw_rng z39
            show kw_AW l 4 kw_E0 KM mX8_mean (p_X8_mean_0 T σ a) 59 [(5, .int x11), (3, .long x12), (2, .int z5), (0, .ref 0), (1, .int a)] [.int z39] S36
            refine kw_goto (pc := 59) (i := 36) (tgt := 77) rfl rfl ?_
            exact kw_ireturn (pc := 77) (i := 48) (ty := .int) rfl rfl rfl ⟨⟨I40, F42⟩, _, rfl, hF⟩
        · replace hF := kf_p c19 hF
          refine kw_lload_n (pc := 28) (i := 18) (k := 1) (n := 3) rfl rfl rfl ?_
          refine kw_aload_n (pc := 29) (i := 19) (k := 3) (n := 0) rfl rfl rfl ?_
          refine kw_iload_n (pc := 30) (i := 20) (k := 4) (n := 1) rfl rfl rfl ?_
          refine kw_iload (pc := 31) (i := 21) (k := 0) (n := 5) rfl rfl ?_
          refine kw_callV (pc := 33) (i := 22) (Y := mX8_rowAt) (a := 0) (As := [.int a, .int x11]) (st := [.long x12]) kw_hE rfl rfl lvX8_115 arX8_rowAt (c_X8_rowAt_0 l T hT0 hT1 S2 I6 a x11 (by first | omega | decide) (by first | omega | decide) (by first | omega | decide) (by first | omega | decide)) (by decide) (Nat.le_of_ble_eq_true rfl) rfl (fun v S45 p44 => ?_)
          obtain ⟨e48, z47, rfl, ef46⟩ := p44
          rw [e48]
          replace hF := kf_le ef46 hF
          have r_z47 := kw_rng z47
          show kw_AW l 4 kw_E0 KM mX8_mean (p_X8_mean_0 T σ a) 36 [(5, .int x11), (3, .long x12), (2, .int z5), (0, .ref 0), (1, .int a)] [.int z47, .long x12] S2
          refine kw_i2l (pc := 36) (i := 23) rfl (fun z49 e_z49 t_z49 => ?_)
          replace hF := kf_le e_z49 hF
          refine kw_ladd (pc := 37) (i := 24) rfl (fun z50 e_z50 => ?_)
          replace hF := kf_le e_z50 hF
          have t_z50 := kw_laddI x12 z49 z50 e_z50
          first | (have u_z50 : z50.toInt = x12.toInt + z49.toInt := (by omega); clear t_z50) | skip
          refine kw_lstore_n (pc := 38) (i := 25) (n := 3) (lv' := [(3, .long z50), (5, .int x11), (2, .int z5), (0, .ref 0), (1, .int a)]) rfl rfl (by decide) rfl ?_
          refine kw_iinc' (pc := 39) (i := 26) (k := 1) (fun z => [(5, .int z), (3, .long z50), (2, .int z5), (0, .ref 0), (1, .int a)]) rfl rfl (by decide) rfl (fun _ => rfl) (fun z51 e_z51 t_z51 => ?_)
          replace hF := kf_le e_z51 hF
          first | (have u_z51 : z51.toInt = x11.toInt + 1 := (by omega); clear t_z51) | skip
          refine kw_goto (pc := 42) (i := 27) (tgt := 17) rfl rfl ?_
          refine kw_sub (lv' := [(5, .int z51), (3, .long z50), (2, .int z5), (0, .ref 0), (1, .int a)]) [0, 1, 2, 3, 4] rfl ?_
          exact ih14 z51 z50 (by omega) hF (by omega)
    exact L13 _ 0 0 (by omega) hF (Nat.lt_succ_self _)
  · replace hF := kf_p c10 hF
    refine kw_iload_n (pc := 10) (i := 6) (k := 0) (n := 2) rfl rfl rfl ?_
    exact kw_ireturn (pc := 11) (i := 7) (ty := .int) rfl rfl rfl ⟨⟨I6, F8⟩, _, rfl, hF⟩
noncomputable def f_X8_put_0 (σ : kw_S) (a : Int32) (i : Int32) (v : Int32) : Int32 × kw_S := kf_b (f_X8_askedText_0 σ a) fun z1 S2 => if z1.toInt < 0 then ((z1, S2)) else (kf_l (S2.1 5 a.toNatClampNeg) fun z3 => kf_l (z3 - (1 : Int32)) fun z4 => kf_l (f_X8_in S2 i (0 : Int32) z4) fun z5 => if z5.toInt = 0 then (kf_b (f_X8_meet_0 S2 (2 : Int32)) fun z13 S14 => (z13, S14)) else (kf_l ((60 : Int32) * a) fun z6 => kf_l (z6 + i) fun z7 => kf_l (S2.1 6 z7.toNatClampNeg) fun z8 => kf_l ((60 : Int32) * a) fun z9 => kf_l (z9 + i) fun z10 => kf_l v.toInt8.toInt32 fun z11 => kf_l (z8 + (1000 : Int32)) fun z12 => (z12, kw_ui S2 6 z10.toNatClampNeg z11)))
theorem f_X8_put_0_u (σ : kw_S) (a : Int32) (i : Int32) (v : Int32) : f_X8_put_0 σ a i v = kf_b (f_X8_askedText_0 σ a) fun z1 S2 => if z1.toInt < 0 then ((z1, S2)) else (kf_l (S2.1 5 a.toNatClampNeg) fun z3 => kf_l (z3 - (1 : Int32)) fun z4 => kf_l (f_X8_in S2 i (0 : Int32) z4) fun z5 => if z5.toInt = 0 then (kf_b (f_X8_meet_0 S2 (2 : Int32)) fun z13 S14 => (z13, S14)) else (kf_l ((60 : Int32) * a) fun z6 => kf_l (z6 + i) fun z7 => kf_l (S2.1 6 z7.toNatClampNeg) fun z8 => kf_l ((60 : Int32) * a) fun z9 => kf_l (z9 + i) fun z10 => kf_l v.toInt8.toInt32 fun z11 => kf_l (z8 + (1000 : Int32)) fun z12 => (z12, kw_ui S2 6 z10.toNatClampNeg z11))) := rfl
abbrev p_X8_put_0 (T : Int) (σ : kw_S) (a : Int32) (i : Int32) (v : Int32) : Option Value → kw_S → Prop := fun vv σ' => (kw_I (bM T) σ' ∧ kw_FM [1, 6, 1000] σ σ') ∧ ∃ r : Int32, vv = some (.int r) ∧ (r, σ') = f_X8_put_0 σ a i v
set_option maxRecDepth 100000 in
set_option maxHeartbeats 4000000 in
theorem c_X8_put_0 (l : Launch) (T : Int) (hT0 : 0 ≤ T) (hT1 : T ≤ 3000) (σ : kw_S) (hI : kw_I (bM T) σ) (a : Int32) (i : Int32) (v : Int32) : kw_Met l 4 KM mX8_put [.ref 0, .int a, .int i, .int v] σ (p_X8_put_0 T σ a i v) := by
  have r_a := kw_rng a
  have r_i := kw_rng i
  have r_v := kw_rng v
  have hF0 : kw_FM [1, 6, 1000] σ σ := kw_FM.rf
  have hF := (f_X8_put_0_u σ a i v).symm
  have q_0 : (0 : Int32).toInt = 0 := rfl
  have q_1 : (1 : Int32).toInt = 1 := rfl
  have q_2 : (2 : Int32).toInt = 2 := rfl
  have q_60 : (60 : Int32).toInt = 60 := rfl
  have q_1000 : (1000 : Int32).toInt = 1000 := rfl
  refine kw_Met.of (by decide) rfl tX8_put (Nat.le_of_ble_eq_true rfl) ?_
  show kw_AW l 4 kw_E0 KM mX8_put (p_X8_put_0 T σ a i v) 0 [(0, .ref 0), (1, .int a), (2, .int i), (3, .int v)] [] σ
  refine kw_aload_n (pc := 0) (i := 0) (k := 0) (n := 0) rfl rfl rfl ?_
  refine kw_iload_n (pc := 1) (i := 1) (k := 1) (n := 1) rfl rfl rfl ?_
  refine kw_callV (pc := 2) (i := 2) (Y := mX8_askedText) (a := 0) (As := [.int a]) (st := []) kw_hE rfl rfl lvX8_125 arX8_askedText (c_X8_askedText_0 l T hT0 hT1 σ hI a ) (by decide) (Nat.le_of_ble_eq_true rfl) rfl (fun v S2 p1 => ?_)
  obtain ⟨⟨I6, F7⟩, z5, rfl, f3, ef4⟩ := p1
  have F8 : kw_FM [1, 6, 1000] σ S2 := kw_FM.tr hF0 F7 (by decide)
  have w_9 : (S2.1 0 27).toInt = (σ.1 0 27).toInt := congrArg Int32.toInt (kw_FM.at0 (j := 27) F7 (by decide))
  replace hF := kf_be ef4 hF
  have r_z5 := kw_rng z5
  show kw_AW l 4 kw_E0 KM mX8_put (p_X8_put_0 T σ a i v) 5 [(0, .ref 0), (1, .int a), (2, .int i), (3, .int v)] [.int z5] S2
  refine kw_istore (pc := 5) (i := 3) (n := 4) (lv' := [(4, .int z5), (0, .ref 0), (1, .int a), (2, .int i), (3, .int v)]) rfl (by decide) rfl ?_
  refine kw_iload (pc := 7) (i := 4) (k := 0) (n := 4) rfl rfl ?_
  refine kw_if_ge (pc := 9) (i := 5) (tgt := 15) rfl rfl (fun c10 => ?_) (fun c10 => ?_)
  · replace hF := kf_nl c10 hF
    refine kw_iload_n (pc := 15) (i := 8) (k := 3) (n := 2) rfl rfl rfl ?_
    refine kw_iconst (pc := 16) (i := 9) (v := 0) rfl rfl ?_
    refine kw_aload_n (pc := 17) (i := 10) (k := 1) (n := 0) rfl rfl rfl ?_
    refine kw_get (pc := 18) (i := 11) (v := .ref 5) rfl rfl rfl lkX8_26 (fun _ => rfl) ?_
    refine kw_iload_n (pc := 21) (i := 12) (k := 2) (n := 1) rfl rfl rfl ?_
    refine kw_iald (pc := 22) (i := 13) (n := 4) rfl rfl (by omega) (by omega) (fun z11 e_z11 => ?_)
    replace hF := kf_le e_z11 hF
    have t_z11 := congrArg Int32.toInt e_z11
    have b_z11 : -9 ≤ z11.toInt ∧ z11.toInt ≤ 60 := by rw [e_z11]; exact I6 5 _
    refine kw_iconst (pc := 23) (i := 14) (v := 1) rfl rfl ?_
    refine kw_isub (pc := 24) (i := 15) rfl (fun z12 e_z12 t_z12 => ?_)
    replace hF := kf_le e_z12 hF
    first | (have u_z12 : z12.toInt = z11.toInt - 1 := (by omega); clear t_z12) | skip
    refine kw_callS (pc := 25) (i := 16) (Y := mX8_in) (As := [.int i, .int 0, .int z12]) (st := []) kw_hE rfl lsX8_93 arX8_in (c_X8_in l T hT0 hT1 S2 I6 i 0 z12 ) (by decide) (Nat.le_of_ble_eq_true rfl) rfl (fun v S14 p13 => ?_)
    obtain ⟨e20, z19, rfl, f15, f16, f17, ef18⟩ := p13
    rw [e20]
    replace hF := kf_le ef18 hF
    have r_z19 := kw_rng z19
    show kw_AW l 4 kw_E0 KM mX8_put (p_X8_put_0 T σ a i v) 28 [(4, .int z5), (0, .ref 0), (1, .int a), (2, .int i), (3, .int v)] [.int z19] S2
    refine kw_if_ne (pc := 28) (i := 17) (tgt := 37) rfl rfl (fun c21 => ?_) (fun c21 => ?_)
    · replace hF := kf_n c21 hF
      refine kw_aload_n (pc := 37) (i := 22) (k := 1) (n := 0) rfl rfl rfl ?_
      refine kw_get (pc := 38) (i := 23) (v := .ref 6) rfl rfl rfl lkX8_29 (fun _ => rfl) ?_
      refine kw_bipush (pc := 41) (i := 24) (v := 60) rfl rfl ?_
      refine kw_iload_n (pc := 43) (i := 25) (k := 2) (n := 1) rfl rfl rfl ?_
      refine kw_imul (pc := 44) (i := 26) rfl (fun z22 e_z22 t_z22 => ?_)
      replace hF := kf_le e_z22 hF
      rw [show (60 : Int32).toInt = 60 from rfl] at t_z22
      first | (have u_z22 : z22.toInt = 60 * a.toInt := (by omega); clear t_z22) | skip
      refine kw_iload_n (pc := 45) (i := 27) (k := 3) (n := 2) rfl rfl rfl ?_
      refine kw_iadd (pc := 46) (i := 28) rfl (fun z23 e_z23 t_z23 => ?_)
      replace hF := kf_le e_z23 hF
      first | (have u_z23 : z23.toInt = z22.toInt + i.toInt := (by omega); clear t_z23) | skip
      refine kw_iald (pc := 47) (i := 29) (n := 240) rfl rfl (by omega) (by omega) (fun z24 e_z24 => ?_)
      replace hF := kf_le e_z24 hF
      have t_z24 := congrArg Int32.toInt e_z24
      have r_z24 := kw_rng z24
      refine kw_istore (pc := 48) (i := 30) (n := 5) (lv' := [(5, .int z24), (4, .int z5), (0, .ref 0), (1, .int a), (2, .int i), (3, .int v)]) rfl (by decide) rfl ?_
      refine kw_aload_n (pc := 50) (i := 31) (k := 2) (n := 0) rfl rfl rfl ?_
      refine kw_get (pc := 51) (i := 32) (v := .ref 6) rfl rfl rfl lkX8_29 (fun _ => rfl) ?_
      refine kw_bipush (pc := 54) (i := 33) (v := 60) rfl rfl ?_
      refine kw_iload_n (pc := 56) (i := 34) (k := 3) (n := 1) rfl rfl rfl ?_
      refine kw_imul (pc := 57) (i := 35) rfl (fun z25 e_z25 t_z25 => ?_)
      replace hF := kf_le e_z25 hF
      rw [show (60 : Int32).toInt = 60 from rfl] at t_z25
      first | (have u_z25 : z25.toInt = 60 * a.toInt := (by omega); clear t_z25) | skip
      refine kw_iload_n (pc := 58) (i := 36) (k := 4) (n := 2) rfl rfl rfl ?_
      refine kw_iadd (pc := 59) (i := 37) rfl (fun z26 e_z26 t_z26 => ?_)
      replace hF := kf_le e_z26 hF
      first | (have u_z26 : z26.toInt = z25.toInt + i.toInt := (by omega); clear t_z26) | skip
      refine kw_iload_n (pc := 60) (i := 38) (k := 5) (n := 3) rfl rfl rfl ?_
      refine kw_i2b (pc := 61) (i := 39) rfl (fun z27 e_z27 => ?_)
      replace hF := kf_le e_z27 hF
      have r_z27 := kw_rng z27
      refine kw_iast (pc := 62) (i := 40) (n := 240) rfl rfl (by omega) (by omega) ?_
      have I28 : kw_I (bM T) (kw_ui S2 6 z26.toNatClampNeg z27) := kw_I_ui I6 (kw_rng z27).1 (Int.le_of_lt_add_one (kw_rng z27).2)
      have F29 : kw_FM [1, 6, 1000] σ (kw_ui S2 6 z26.toNatClampNeg z27) := kw_FM_ui F8 (by decide) (by decide)
      refine kw_iload (pc := 63) (i := 41) (k := 0) (n := 5) rfl rfl ?_
      refine kw_sipush (pc := 65) (i := 42) (v := 1000) rfl rfl ?_
      refine kw_iadd (pc := 68) (i := 43) rfl (fun z30 e_z30 t_z30 => ?_)
      replace hF := kf_le e_z30 hF
      first | (have u_z30 : z30.toInt = z24.toInt + 1000 := (by omega); clear t_z30) | skip
      exact kw_ireturn (pc := 69) (i := 44) (ty := .int) rfl rfl rfl ⟨⟨I28, F29⟩, _, rfl, hF⟩
    · replace hF := kf_p c21 hF
      refine kw_aload_n (pc := 31) (i := 18) (k := 1) (n := 0) rfl rfl rfl ?_
      refine kw_iconst (pc := 32) (i := 19) (v := 2) rfl rfl ?_
      refine kw_callV (pc := 33) (i := 20) (Y := mX8_meet) (a := 0) (As := [.int 2]) (st := []) kw_hE rfl rfl lvX8_101 arX8_meet (c_X8_meet_0 l T hT0 hT1 S2 I6 2 (by first | omega | decide) (by first | omega | decide)) (by decide) (Nat.le_of_ble_eq_true rfl) rfl (fun v S32 p31 => ?_)
      obtain ⟨⟨I36, F37⟩, z35, rfl, f33, ef34⟩ := p31
      have F38 : kw_FM [1, 6, 1000] σ S32 := kw_FM.tr F8 F37 (by decide)
      have w_39 : (S32.1 0 27).toInt = (S2.1 0 27).toInt := congrArg Int32.toInt (kw_FM.at0 (j := 27) F37 (by decide))
      replace hF := kf_be ef34 hF
      have r_z35 := kw_rng z35
      show kw_AW l 4 kw_E0 KM mX8_put (p_X8_put_0 T σ a i v) 36 [(4, .int z5), (0, .ref 0), (1, .int a), (2, .int i), (3, .int v)] [.int z35] S32
      exact kw_ireturn (pc := 36) (i := 21) (ty := .int) rfl rfl rfl ⟨⟨I36, F38⟩, _, rfl, hF⟩
  · replace hF := kf_p c10 hF
    refine kw_iload (pc := 12) (i := 6) (k := 0) (n := 4) rfl rfl ?_
    exact kw_ireturn (pc := 14) (i := 7) (ty := .int) rfl rfl rfl ⟨⟨I6, F8⟩, _, rfl, hF⟩
noncomputable def f_X8_here_0 (σ : kw_S) (a : Int32) : Int32 := kf_l (σ.1 5 a.toNatClampNeg) fun z1 => if (σ.1 0 17).toInt < z1.toInt then (kf_l ((60 : Int32) * a) fun z2 => kf_l (z2 + (σ.1 0 17)) fun z3 => kf_l (σ.1 6 z3.toNatClampNeg) fun z4 => z4) else (((-9) : Int32))
theorem f_X8_here_0_u (σ : kw_S) (a : Int32) : f_X8_here_0 σ a = kf_l (σ.1 5 a.toNatClampNeg) fun z1 => if (σ.1 0 17).toInt < z1.toInt then (kf_l ((60 : Int32) * a) fun z2 => kf_l (z2 + (σ.1 0 17)) fun z3 => kf_l (σ.1 6 z3.toNatClampNeg) fun z4 => z4) else (((-9) : Int32)) := rfl
abbrev p_X8_here_0 (T : Int) (σ : kw_S) (a : Int32) : Option Value → kw_S → Prop := fun vv σ' => σ' = σ ∧ ∃ r : Int32, vv = some (.int r) ∧ (r.toInt = -9 ∨ (σ.1 0 17).toInt < 60) ∧ r = f_X8_here_0 σ a
set_option maxRecDepth 100000 in
set_option maxHeartbeats 4000000 in
theorem c_X8_here_0 (l : Launch) (T : Int) (hT0 : 0 ≤ T) (hT1 : T ≤ 3000) (σ : kw_S) (hI : kw_I (bM T) σ) (a : Int32) (hp0 : 0 ≤ a.toInt) (hp1 : a.toInt ≤ 3) : kw_Met l 1 KM mX8_here [.ref 0, .int a] σ (p_X8_here_0 T σ a) := by
  have r_a := kw_rng a
  have hF := (f_X8_here_0_u σ a).symm
  have q_m9 : (-9 : Int32).toInt = -9 := rfl
  have q_60 : (60 : Int32).toInt = 60 := rfl
  refine kw_Met.of (by decide) rfl tX8_here (Nat.le_of_ble_eq_true rfl) ?_
  show kw_AW l 1 kw_E0 KM mX8_here (p_X8_here_0 T σ a) 0 [(0, .ref 0), (1, .int a)] [] σ
  refine kw_aload_n (pc := 0) (i := 0) (k := 0) (n := 0) rfl rfl rfl ?_
  refine kw_get (pc := 1) (i := 1) (v := .int (σ.1 0 17)) rfl rfl rfl lkX8_128 (fun _ => rfl) ?_
  have b1 : 0 ≤ (σ.1 0 17).toInt ∧ (σ.1 0 17).toInt ≤ 60 := hI 0 17
  refine kw_aload_n (pc := 4) (i := 2) (k := 0) (n := 0) rfl rfl rfl ?_
  refine kw_get (pc := 5) (i := 3) (v := .ref 5) rfl rfl rfl lkX8_26 (fun _ => rfl) ?_
  refine kw_iload_n (pc := 8) (i := 4) (k := 1) (n := 1) rfl rfl rfl ?_
  refine kw_iald (pc := 9) (i := 5) (n := 4) rfl rfl (by omega) (by omega) (fun z2 e_z2 => ?_)
  replace hF := kf_le e_z2 hF
  have t_z2 := congrArg Int32.toInt e_z2
  have b_z2 : -9 ≤ z2.toInt ∧ z2.toInt ≤ 60 := by rw [e_z2]; exact hI 5 _
  refine kw_icmp_ge (pc := 10) (i := 6) (tgt := 30) rfl rfl (fun c3 => ?_) (fun c3 => ?_)
  · replace hF := kf_nl c3 hF
    refine kw_bipush (pc := 30) (i := 17) (v := (-9)) rfl rfl ?_
    exact kw_ireturn (pc := 32) (i := 18) (ty := .int) rfl rfl rfl ⟨rfl, _, rfl, by omega, hF⟩
  · replace hF := kf_p c3 hF
    refine kw_aload_n (pc := 13) (i := 7) (k := 0) (n := 0) rfl rfl rfl ?_
    refine kw_get (pc := 14) (i := 8) (v := .ref 6) rfl rfl rfl lkX8_29 (fun _ => rfl) ?_
    refine kw_bipush (pc := 17) (i := 9) (v := 60) rfl rfl ?_
    refine kw_iload_n (pc := 19) (i := 10) (k := 1) (n := 1) rfl rfl rfl ?_
    refine kw_imul (pc := 20) (i := 11) rfl (fun z4 e_z4 t_z4 => ?_)
    replace hF := kf_le e_z4 hF
    rw [show (60 : Int32).toInt = 60 from rfl] at t_z4
    first | (have u_z4 : z4.toInt = 60 * a.toInt := (by omega); clear t_z4) | skip
    refine kw_aload_n (pc := 21) (i := 12) (k := 0) (n := 0) rfl rfl rfl ?_
    refine kw_get (pc := 22) (i := 13) (v := .int (σ.1 0 17)) rfl rfl rfl lkX8_128 (fun _ => rfl) ?_
    refine kw_iadd (pc := 25) (i := 14) rfl (fun z5 e_z5 t_z5 => ?_)
    replace hF := kf_le e_z5 hF
    first | (have u_z5 : z5.toInt = z4.toInt + (σ.1 0 17).toInt := (by omega); clear t_z5) | skip
    refine kw_iald (pc := 26) (i := 15) (n := 240) rfl rfl (by omega) (by omega) (fun z6 e_z6 => ?_)
    replace hF := kf_le e_z6 hF
    have t_z6 := congrArg Int32.toInt e_z6
    have r_z6 := kw_rng z6
    refine kw_goto (pc := 27) (i := 16) (tgt := 32) rfl rfl ?_
    exact kw_ireturn (pc := 32) (i := 18) (ty := .int) rfl rfl rfl ⟨rfl, _, rfl, by omega, hF⟩
noncomputable def l_X8_skip_0_0 (a1 : Int32) : Nat → kw_S → kw_S
  | 0, S => S
  | n + 1, S => kf_l (f_X8_here_0 S a1) fun z1 => if z1.toInt = (32 : Int32).toInt then (kf_l ((S.1 0 17) + (1 : Int32)) fun z2 => l_X8_skip_0_0 a1 n (kw_ui S 0 17 z2)) else (S)
theorem l_X8_skip_0_0_s (a1 : Int32) (n : Nat) (S : kw_S) : l_X8_skip_0_0 a1 (n + 1) S = kf_l (f_X8_here_0 S a1) fun z1 => if z1.toInt = (32 : Int32).toInt then (kf_l ((S.1 0 17) + (1 : Int32)) fun z2 => l_X8_skip_0_0 a1 n (kw_ui S 0 17 z2)) else (S) := rfl
noncomputable def f_X8_skip_0 (σ : kw_S) (a : Int32) : kw_S := l_X8_skip_0_0 a ((61 - (σ.1 0 17).toInt).toNat + 1) σ
theorem f_X8_skip_0_u (σ : kw_S) (a : Int32) : f_X8_skip_0 σ a = l_X8_skip_0_0 a ((61 - (σ.1 0 17).toInt).toNat + 1) σ := rfl
abbrev p_X8_skip_0 (T : Int) (σ : kw_S) (a : Int32) : Option Value → kw_S → Prop := fun vv σ' => (kw_I (bM T) σ' ∧ kw_FM [1017] σ σ') ∧ vv = none ∧ (σ.1 0 17).toInt ≤ (σ'.1 0 17).toInt ∧ (σ'.1 0 18).toInt = (σ.1 0 18).toInt ∧ (σ'.1 0 19).toInt = (σ.1 0 19).toInt ∧ σ' = f_X8_skip_0 σ a
set_option maxRecDepth 100000 in
set_option maxHeartbeats 4000000 in
theorem c_X8_skip_0 (l : Launch) (T : Int) (hT0 : 0 ≤ T) (hT1 : T ≤ 3000) (σ : kw_S) (hI : kw_I (bM T) σ) (a : Int32) (hp0 : 0 ≤ a.toInt) (hp1 : a.toInt ≤ 3) : kw_Met l 2 KM mX8_skip [.ref 0, .int a] σ (p_X8_skip_0 T σ a) := by
  have r_a := kw_rng a
  have hF0 : kw_FM [1017] σ σ := kw_FM.rf
  have hF := (f_X8_skip_0_u σ a).symm
  have q_1 : (1 : Int32).toInt = 1 := rfl
  have q_32 : (32 : Int32).toInt = 32 := rfl
  refine kw_Met.of (by decide) rfl tX8_skip (Nat.le_of_ble_eq_true rfl) ?_
  show kw_AW l 2 kw_E0 KM mX8_skip (p_X8_skip_0 T σ a) 0 [(0, .ref 0), (1, .int a)] [] σ
  have L4 : ∀ (n10 : Nat)  (S1 : kw_S), kw_I (bM T) S1 → kw_FM [1017] σ S1 → (σ.1 0 17).toInt ≤ (S1.1 0 17).toInt → (S1.1 0 18).toInt = (σ.1 0 18).toInt → (S1.1 0 19).toInt = (σ.1 0 19).toInt → l_X8_skip_0_0 a n10 S1 = (f_X8_skip_0 σ a) → (61 - (S1.1 0 17).toInt).toNat < n10 → kw_AW l 2 kw_E0 KM mX8_skip (p_X8_skip_0 T σ a) 0 [(0, .ref 0), (1, .int a)] [] S1 := by
    intro n10
    induction n10 with
    | zero => intro S1 I2 F3 v6 v7 v8 hF m9; exact absurd m9 (Nat.not_lt_zero _)
    | succ n10 ih5 =>
      intro S1 I2 F3 v6 v7 v8 hF m9
      replace hF := kf_st (l_X8_skip_0_0_s _ _ _) hF
      refine kw_aload_n (pc := 0) (i := 0) (k := 0) (n := 0) rfl rfl rfl ?_
      refine kw_iload_n (pc := 1) (i := 1) (k := 1) (n := 1) rfl rfl rfl ?_
      refine kw_callV (pc := 2) (i := 2) (Y := mX8_here) (a := 0) (As := [.int a]) (st := []) kw_hE rfl rfl lvX8_131 arX8_here (c_X8_here_0 l T hT0 hT1 S1 I2 a (by first | omega | decide) (by first | omega | decide)) (by decide) (Nat.le_of_ble_eq_true rfl) rfl (fun v S12 p11 => ?_)
      obtain ⟨e16, z15, rfl, f13, ef14⟩ := p11
      rw [e16]
      replace hF := kf_le ef14 hF
      have f13 : (z15.toInt = -9 ∨ (S1.1 0 17).toInt < 60) := f13
      have r_z15 := kw_rng z15
      show kw_AW l 2 kw_E0 KM mX8_skip (p_X8_skip_0 T σ a) 5 [(0, .ref 0), (1, .int a)] [.int z15] S1
      refine kw_bipush (pc := 5) (i := 3) (v := 32) rfl rfl ?_
      refine kw_icmp_ne (pc := 7) (i := 4) (tgt := 23) rfl rfl (fun c17 => ?_) (fun c17 => ?_)
      · replace hF := kf_n c17 hF
        exact kw_return (pc := 23) (i := 12) rfl rfl ⟨⟨I2, F3⟩, rfl, (show (σ.1 0 17).toInt ≤ (S1.1 0 17).toInt from by omega), (show (S1.1 0 18).toInt = (σ.1 0 18).toInt from by omega), (show (S1.1 0 19).toInt = (σ.1 0 19).toInt from by omega), hF⟩
      · replace hF := kf_p c17 hF
        refine kw_aload_n (pc := 10) (i := 5) (k := 0) (n := 0) rfl rfl rfl ?_
        refine kw_dup (pc := 11) (i := 6) rfl rfl ?_
        refine kw_get (pc := 12) (i := 7) (v := .int (S1.1 0 17)) rfl rfl rfl lkX8_128 (fun _ => rfl) ?_
        have b18 : 0 ≤ (S1.1 0 17).toInt ∧ (S1.1 0 17).toInt ≤ 60 := I2 0 17
        refine kw_iconst (pc := 15) (i := 8) (v := 1) rfl rfl ?_
        refine kw_iadd (pc := 16) (i := 9) rfl (fun z19 e_z19 t_z19 => ?_)
        replace hF := kf_le e_z19 hF
        first | (have u_z19 : z19.toInt = (S1.1 0 17).toInt + 1 := (by omega); clear t_z19) | skip
        refine kw_puti (pc := 17) (i := 10) (z := 0) rfl rfl rfl lpX8_128 rfl rfl ?_
        have I20 : kw_I (bM T) (kw_ui S1 0 17 z19) := kw_I_ui I2 (show 0 ≤ z19.toInt by omega) (show z19.toInt ≤ 60 by omega)
        have F21 : kw_FM [1017] σ (kw_ui S1 0 17 z19) := kw_FM_ui0 F3 (by decide)
        refine kw_goto (pc := 20) (i := 11) (tgt := 0) rfl rfl ?_
        refine kw_sub (lv' := [(0, .ref 0), (1, .int a)]) [0, 1] rfl ?_
        exact ih5 (kw_ui S1 0 17 z19) I20 F21 (show (σ.1 0 17).toInt ≤ z19.toInt from by omega) (show (S1.1 0 18).toInt = (σ.1 0 18).toInt from by omega) (show (S1.1 0 19).toInt = (σ.1 0 19).toInt from by omega) hF (show (61 - z19.toInt).toNat < n10 from by omega)
  exact L4 _ σ hI hF0 (show (σ.1 0 17).toInt ≤ (σ.1 0 17).toInt from by omega) (show (σ.1 0 18).toInt = (σ.1 0 18).toInt from by omega) (show (σ.1 0 19).toInt = (σ.1 0 19).toInt from by omega) hF (Nat.lt_succ_self _)
noncomputable def f_X8_figure_0 (σ : kw_S) (a : Int32) (to : Int32) (lo : Int32) (hi : Int32) : Int32 × kw_S := kf_l (f_X8_here_0 σ a) fun z1 => kf_l (z1 - (48 : Int32)) fun z2 => kf_l (f_X8_in σ z2 lo hi) fun z3 => if z3.toInt = 0 then (((0 : Int32), σ)) else (kf_l ((σ.1 0 17) + (1 : Int32)) fun z4 => ((1 : Int32), kw_ui (kw_ui σ 13 to.toNatClampNeg z2) 0 17 z4))
theorem f_X8_figure_0_u (σ : kw_S) (a : Int32) (to : Int32) (lo : Int32) (hi : Int32) : f_X8_figure_0 σ a to lo hi = kf_l (f_X8_here_0 σ a) fun z1 => kf_l (z1 - (48 : Int32)) fun z2 => kf_l (f_X8_in σ z2 lo hi) fun z3 => if z3.toInt = 0 then (((0 : Int32), σ)) else (kf_l ((σ.1 0 17) + (1 : Int32)) fun z4 => ((1 : Int32), kw_ui (kw_ui σ 13 to.toNatClampNeg z2) 0 17 z4)) := rfl
abbrev p_X8_figure_0 (T : Int) (σ : kw_S) (a : Int32) (to : Int32) (lo : Int32) (hi : Int32) : Option Value → kw_S → Prop := fun vv σ' => (kw_I (bM T) σ' ∧ kw_FM [13, 1017] σ σ') ∧ ∃ r : Int32, vv = some (.int r) ∧ (r.toInt = 0 ∨ r.toInt = 1) ∧ (σ.1 0 17).toInt ≤ (σ'.1 0 17).toInt ∧ (σ'.1 0 18).toInt = (σ.1 0 18).toInt ∧ (σ'.1 0 19).toInt = (σ.1 0 19).toInt ∧ (r, σ') = f_X8_figure_0 σ a to lo hi
set_option maxRecDepth 100000 in
set_option maxHeartbeats 4000000 in
theorem c_X8_figure_0 (l : Launch) (T : Int) (hT0 : 0 ≤ T) (hT1 : T ≤ 3000) (σ : kw_S) (hI : kw_I (bM T) σ) (a : Int32) (to : Int32) (lo : Int32) (hi : Int32) (hp0 : 0 ≤ a.toInt) (hp1 : a.toInt ≤ 3) (hp2 : 0 ≤ to.toInt) (hp3 : to.toInt < 24) (hp4 : 0 ≤ lo.toInt) : kw_Met l 2 KM mX8_figure [.ref 0, .int a, .int to, .int lo, .int hi] σ (p_X8_figure_0 T σ a to lo hi) := by
  have r_a := kw_rng a
  have r_to := kw_rng to
  have r_lo := kw_rng lo
  have r_hi := kw_rng hi
  have hF0 : kw_FM [13, 1017] σ σ := kw_FM.rf
  have hF := (f_X8_figure_0_u σ a to lo hi).symm
  have q_0 : (0 : Int32).toInt = 0 := rfl
  have q_1 : (1 : Int32).toInt = 1 := rfl
  have q_48 : (48 : Int32).toInt = 48 := rfl
  refine kw_Met.of (by decide) rfl tX8_figure (Nat.le_of_ble_eq_true rfl) ?_
  show kw_AW l 2 kw_E0 KM mX8_figure (p_X8_figure_0 T σ a to lo hi) 0 [(0, .ref 0), (1, .int a), (2, .int to), (3, .int lo), (4, .int hi)] [] σ
  refine kw_aload_n (pc := 0) (i := 0) (k := 0) (n := 0) rfl rfl rfl ?_
  refine kw_iload_n (pc := 1) (i := 1) (k := 1) (n := 1) rfl rfl rfl ?_
  refine kw_callV (pc := 2) (i := 2) (Y := mX8_here) (a := 0) (As := [.int a]) (st := []) kw_hE rfl rfl lvX8_131 arX8_here (c_X8_here_0 l T hT0 hT1 σ hI a (by first | omega | decide) (by first | omega | decide)) (by decide) (Nat.le_of_ble_eq_true rfl) rfl (fun v S2 p1 => ?_)
  obtain ⟨e6, z5, rfl, f3, ef4⟩ := p1
  rw [e6]
  replace hF := kf_le ef4 hF
  have f3 : (z5.toInt = -9 ∨ (σ.1 0 17).toInt < 60) := f3
  have r_z5 := kw_rng z5
  show kw_AW l 2 kw_E0 KM mX8_figure (p_X8_figure_0 T σ a to lo hi) 5 [(0, .ref 0), (1, .int a), (2, .int to), (3, .int lo), (4, .int hi)] [.int z5] σ
  refine kw_bipush (pc := 5) (i := 3) (v := 48) rfl rfl ?_
  refine kw_isub (pc := 7) (i := 4) rfl (fun z7 e_z7 t_z7 => ?_)
  replace hF := kf_le e_z7 hF
  first | (have u_z7 : z7.toInt = z5.toInt - 48 := (by omega); clear t_z7) | skip
  refine kw_istore (pc := 8) (i := 5) (n := 5) (lv' := [(5, .int z7), (0, .ref 0), (1, .int a), (2, .int to), (3, .int lo), (4, .int hi)]) rfl (by decide) rfl ?_
  refine kw_iload (pc := 10) (i := 6) (k := 0) (n := 5) rfl rfl ?_
  refine kw_iload_n (pc := 12) (i := 7) (k := 4) (n := 3) rfl rfl rfl ?_
  refine kw_iload (pc := 13) (i := 8) (k := 5) (n := 4) rfl rfl ?_
  refine kw_callS (pc := 15) (i := 9) (Y := mX8_in) (As := [.int z7, .int lo, .int hi]) (st := []) kw_hE rfl lsX8_93 arX8_in (c_X8_in l T hT0 hT1 σ hI z7 lo hi ) (by decide) (Nat.le_of_ble_eq_true rfl) rfl (fun v S9 p8 => ?_)
  obtain ⟨e15, z14, rfl, f10, f11, f12, ef13⟩ := p8
  rw [e15]
  replace hF := kf_le ef13 hF
  have r_z14 := kw_rng z14
  show kw_AW l 2 kw_E0 KM mX8_figure (p_X8_figure_0 T σ a to lo hi) 18 [(5, .int z7), (0, .ref 0), (1, .int a), (2, .int to), (3, .int lo), (4, .int hi)] [.int z14] σ
  refine kw_if_ne (pc := 18) (i := 10) (tgt := 23) rfl rfl (fun c16 => ?_) (fun c16 => ?_)
  · replace hF := kf_n c16 hF
    refine kw_aload_n (pc := 23) (i := 13) (k := 1) (n := 0) rfl rfl rfl ?_
    refine kw_get (pc := 24) (i := 14) (v := .ref 13) rfl rfl rfl lkX8_54 (fun _ => rfl) ?_
    refine kw_iload_n (pc := 27) (i := 15) (k := 3) (n := 2) rfl rfl rfl ?_
    refine kw_iload (pc := 28) (i := 16) (k := 0) (n := 5) rfl rfl ?_
    refine kw_iast (pc := 30) (i := 17) (n := 24) rfl rfl (by omega) (by omega) ?_
    have I17 : kw_I (bM T) (kw_ui σ 13 to.toNatClampNeg z7) := kw_I_ui hI (kw_rng z7).1 (Int.le_of_lt_add_one (kw_rng z7).2)
    have F18 : kw_FM [13, 1017] σ (kw_ui σ 13 to.toNatClampNeg z7) := kw_FM_ui hF0 (by decide) (by decide)
    refine kw_aload_n (pc := 31) (i := 18) (k := 1) (n := 0) rfl rfl rfl ?_
    refine kw_dup (pc := 32) (i := 19) rfl rfl ?_
    refine kw_get (pc := 33) (i := 20) (v := .int (σ.1 0 17)) rfl rfl rfl lkX8_128 (fun _ => rfl) ?_
    have b19 : 0 ≤ (σ.1 0 17).toInt ∧ (σ.1 0 17).toInt ≤ 60 := hI 0 17
    refine kw_iconst (pc := 36) (i := 21) (v := 1) rfl rfl ?_
    refine kw_iadd (pc := 37) (i := 22) rfl (fun z20 e_z20 t_z20 => ?_)
    replace hF := kf_le e_z20 hF
    first | (have u_z20 : z20.toInt = (σ.1 0 17).toInt + 1 := (by omega); clear t_z20) | skip
    refine kw_puti (pc := 38) (i := 23) (z := 0) rfl rfl rfl lpX8_128 rfl rfl ?_
    have I21 : kw_I (bM T) (kw_ui (kw_ui σ 13 to.toNatClampNeg z7) 0 17 z20) := kw_I_ui I17 (show 0 ≤ z20.toInt by omega) (show z20.toInt ≤ 60 by omega)
    have F22 : kw_FM [13, 1017] σ (kw_ui (kw_ui σ 13 to.toNatClampNeg z7) 0 17 z20) := kw_FM_ui0 F18 (by decide)
    refine kw_iconst (pc := 41) (i := 24) (v := 1) rfl rfl ?_
    exact kw_ireturn (pc := 42) (i := 25) (ty := .boolean) rfl rfl rfl ⟨⟨I21, F22⟩, _, rfl, by omega, (show (σ.1 0 17).toInt ≤ z20.toInt from by omega), (show (σ.1 0 18).toInt = (σ.1 0 18).toInt from by omega), (show (σ.1 0 19).toInt = (σ.1 0 19).toInt from by omega), hF⟩
  · replace hF := kf_p c16 hF
    refine kw_iconst (pc := 21) (i := 11) (v := 0) rfl rfl ?_
    exact kw_ireturn (pc := 22) (i := 12) (ty := .boolean) rfl rfl rfl ⟨⟨hI, hF0⟩, _, rfl, by omega, (show (σ.1 0 17).toInt ≤ (σ.1 0 17).toInt from by omega), (show (σ.1 0 18).toInt = (σ.1 0 18).toInt from by omega), (show (σ.1 0 19).toInt = (σ.1 0 19).toInt from by omega), hF⟩
noncomputable def l_X8_readsWinds_0_32 (a1 : Int32) : Nat → kw_S → Int32 × kw_S
  | 0, S => (0, S)
  | n + 1, S => if (S.1 0 18).toInt < (8 : Int32).toInt then (kf_l (f_X8_here_0 S a1) fun z4 => kf_l (z4 - (48 : Int32)) fun z5 => kf_l (f_X8_in S z5 (0 : Int32) (5 : Int32)) fun z6 => if z6.toInt = 0 then (if 0 < (S.1 0 18).toInt then (((1 : Int32), S)) else (((0 : Int32), S))) else (kf_l (f_X8_here_0 S a1) fun z7 => kf_l (z7 - (48 : Int32)) fun z8 => kf_l ((S.1 0 18) + (1 : Int32)) fun z9 => kf_l ((S.1 0 17) + (1 : Int32)) fun z10 => l_X8_readsWinds_0_32 a1 n (kw_ui (kw_ui (kw_ui S 12 (S.1 0 18).toNatClampNeg z8) 0 18 z9) 0 17 z10))) else (if 0 < (S.1 0 18).toInt then (((1 : Int32), S)) else (((0 : Int32), S)))
theorem l_X8_readsWinds_0_32_s (a1 : Int32) (n : Nat) (S : kw_S) : l_X8_readsWinds_0_32 a1 (n + 1) S = if (S.1 0 18).toInt < (8 : Int32).toInt then (kf_l (f_X8_here_0 S a1) fun z4 => kf_l (z4 - (48 : Int32)) fun z5 => kf_l (f_X8_in S z5 (0 : Int32) (5 : Int32)) fun z6 => if z6.toInt = 0 then (if 0 < (S.1 0 18).toInt then (((1 : Int32), S)) else (((0 : Int32), S))) else (kf_l (f_X8_here_0 S a1) fun z7 => kf_l (z7 - (48 : Int32)) fun z8 => kf_l ((S.1 0 18) + (1 : Int32)) fun z9 => kf_l ((S.1 0 17) + (1 : Int32)) fun z10 => l_X8_readsWinds_0_32 a1 n (kw_ui (kw_ui (kw_ui S 12 (S.1 0 18).toNatClampNeg z8) 0 18 z9) 0 17 z10))) else (if 0 < (S.1 0 18).toInt then (((1 : Int32), S)) else (((0 : Int32), S))) := rfl
noncomputable def f_X8_readsWinds_0 (σ : kw_S) (a : Int32) : Int32 × kw_S := kf_l (f_X8_skip_0 σ a) fun S1 => kf_l (f_X8_here_0 S1 a) fun z2 => if z2.toInt = (119 : Int32).toInt then (kf_l ((S1.1 0 17) + (1 : Int32)) fun z3 => l_X8_readsWinds_0_32 a ((9 - (0 : Int32).toInt).toNat + 1) (kw_ui (kw_ui S1 0 17 z3) 0 18 0)) else (((0 : Int32), S1))
theorem f_X8_readsWinds_0_u (σ : kw_S) (a : Int32) : f_X8_readsWinds_0 σ a = kf_l (f_X8_skip_0 σ a) fun S1 => kf_l (f_X8_here_0 S1 a) fun z2 => if z2.toInt = (119 : Int32).toInt then (kf_l ((S1.1 0 17) + (1 : Int32)) fun z3 => l_X8_readsWinds_0_32 a ((9 - (0 : Int32).toInt).toNat + 1) (kw_ui (kw_ui S1 0 17 z3) 0 18 0)) else (((0 : Int32), S1)) := rfl
abbrev p_X8_readsWinds_0 (T : Int) (σ : kw_S) (a : Int32) : Option Value → kw_S → Prop := fun vv σ' => (kw_I (bM T) σ' ∧ kw_FM [12, 1017, 1018] σ σ') ∧ ∃ r : Int32, vv = some (.int r) ∧ (r.toInt = 0 ∨ r.toInt = 1) ∧ (r.toInt = 0 ∨ 1 ≤ (σ'.1 0 18).toInt) ∧ (σ'.1 0 19).toInt = (σ.1 0 19).toInt ∧ (r, σ') = f_X8_readsWinds_0 σ a
set_option maxRecDepth 100000 in
set_option maxHeartbeats 4000000 in
theorem c_X8_readsWinds_0 (l : Launch) (T : Int) (hT0 : 0 ≤ T) (hT1 : T ≤ 3000) (σ : kw_S) (hI : kw_I (bM T) σ) (a : Int32) (hp0 : 0 ≤ a.toInt) (hp1 : a.toInt ≤ 3) : kw_Met l 3 KM mX8_readsWinds [.ref 0, .int a] σ (p_X8_readsWinds_0 T σ a) := by
  have r_a := kw_rng a
  have hF0 : kw_FM [12, 1017, 1018] σ σ := kw_FM.rf
  have hF := (f_X8_readsWinds_0_u σ a).symm
  have q_0 : (0 : Int32).toInt = 0 := rfl
  have q_1 : (1 : Int32).toInt = 1 := rfl
  have q_5 : (5 : Int32).toInt = 5 := rfl
  have q_8 : (8 : Int32).toInt = 8 := rfl
  have q_48 : (48 : Int32).toInt = 48 := rfl
  have q_119 : (119 : Int32).toInt = 119 := rfl
  refine kw_Met.of (by decide) rfl tX8_readsWinds (Nat.le_of_ble_eq_true rfl) ?_
  show kw_AW l 3 kw_E0 KM mX8_readsWinds (p_X8_readsWinds_0 T σ a) 0 [(0, .ref 0), (1, .int a)] [] σ
  refine kw_aload_n (pc := 0) (i := 0) (k := 0) (n := 0) rfl rfl rfl ?_
  refine kw_iload_n (pc := 1) (i := 1) (k := 1) (n := 1) rfl rfl rfl ?_
  refine kw_callV (pc := 2) (i := 2) (Y := mX8_skip) (a := 0) (As := [.int a]) (st := []) kw_hE rfl rfl lvX8_134 arX8_skip (c_X8_skip_0 l T hT0 hT1 σ hI a (by first | omega | decide) (by first | omega | decide)) (by decide) (Nat.le_of_ble_eq_true rfl) rfl (fun v S2 p1 => ?_)
  obtain ⟨⟨I7, F8⟩, rfl, f3, f4, f5, ef6⟩ := p1
  have F9 : kw_FM [12, 1017, 1018] σ S2 := kw_FM.tr hF0 F8 (by decide)
  have w_10 : (S2.1 0 19).toInt = (σ.1 0 19).toInt := congrArg Int32.toInt (kw_FM.at0 (j := 19) F8 (by decide))
  have w_11 : (S2.1 0 27).toInt = (σ.1 0 27).toInt := congrArg Int32.toInt (kw_FM.at0 (j := 27) F8 (by decide))
  replace hF := kf_le ef6 hF
  have f3 : (σ.1 0 17).toInt ≤ (S2.1 0 17).toInt := f3
  have f4 : (S2.1 0 18).toInt = (σ.1 0 18).toInt := f4
  have f5 : (S2.1 0 19).toInt = (σ.1 0 19).toInt := f5
  show kw_AW l 3 kw_E0 KM mX8_readsWinds (p_X8_readsWinds_0 T σ a) 5 [(0, .ref 0), (1, .int a)] [] S2
  refine kw_aload_n (pc := 5) (i := 3) (k := 0) (n := 0) rfl rfl rfl ?_
  refine kw_iload_n (pc := 6) (i := 4) (k := 1) (n := 1) rfl rfl rfl ?_
  refine kw_callV (pc := 7) (i := 5) (Y := mX8_here) (a := 0) (As := [.int a]) (st := []) kw_hE rfl rfl lvX8_131 arX8_here (c_X8_here_0 l T hT0 hT1 S2 I7 a (by first | omega | decide) (by first | omega | decide)) (by decide) (Nat.le_of_ble_eq_true rfl) rfl (fun v S13 p12 => ?_)
  obtain ⟨e17, z16, rfl, f14, ef15⟩ := p12
  rw [e17]
  replace hF := kf_le ef15 hF
  have f14 : (z16.toInt = -9 ∨ (S2.1 0 17).toInt < 60) := f14
  have r_z16 := kw_rng z16
  show kw_AW l 3 kw_E0 KM mX8_readsWinds (p_X8_readsWinds_0 T σ a) 10 [(0, .ref 0), (1, .int a)] [.int z16] S2
  refine kw_bipush (pc := 10) (i := 6) (v := 119) rfl rfl ?_
  refine kw_icmp_eq (pc := 12) (i := 7) (tgt := 17) rfl rfl (fun c18 => ?_) (fun c18 => ?_)
  · replace hF := kf_p c18 hF
    refine kw_aload_n (pc := 17) (i := 10) (k := 0) (n := 0) rfl rfl rfl ?_
    refine kw_dup (pc := 18) (i := 11) rfl rfl ?_
    refine kw_get (pc := 19) (i := 12) (v := .int (S2.1 0 17)) rfl rfl rfl lkX8_128 (fun _ => rfl) ?_
    have b19 : 0 ≤ (S2.1 0 17).toInt ∧ (S2.1 0 17).toInt ≤ 60 := I7 0 17
    refine kw_iconst (pc := 22) (i := 13) (v := 1) rfl rfl ?_
    refine kw_iadd (pc := 23) (i := 14) rfl (fun z20 e_z20 t_z20 => ?_)
    replace hF := kf_le e_z20 hF
    first | (have u_z20 : z20.toInt = (S2.1 0 17).toInt + 1 := (by omega); clear t_z20) | skip
    refine kw_puti (pc := 24) (i := 15) (z := 0) rfl rfl rfl lpX8_128 rfl rfl ?_
    have I21 : kw_I (bM T) (kw_ui S2 0 17 z20) := kw_I_ui I7 (show 0 ≤ z20.toInt by omega) (show z20.toInt ≤ 60 by omega)
    have F22 : kw_FM [12, 1017, 1018] σ (kw_ui S2 0 17 z20) := kw_FM_ui0 F9 (by decide)
    refine kw_aload_n (pc := 27) (i := 16) (k := 0) (n := 0) rfl rfl rfl ?_
    refine kw_iconst (pc := 28) (i := 17) (v := 0) rfl rfl ?_
    refine kw_puti (pc := 29) (i := 18) (z := 0) rfl rfl rfl lpX8_138 rfl rfl ?_
    have I23 : kw_I (bM T) (kw_ui (kw_ui S2 0 17 z20) 0 18 0) := kw_I_ui I21 (show 0 ≤ (0 : Int32).toInt by omega) (show (0 : Int32).toInt ≤ 8 by omega)
    have F24 : kw_FM [12, 1017, 1018] σ (kw_ui (kw_ui S2 0 17 z20) 0 18 0) := kw_FM_ui0 F22 (by decide)
    have L28 : ∀ (n32 : Nat)  (S25 : kw_S), kw_I (bM T) S25 → kw_FM [12, 1017, 1018] σ S25 → (S25.1 0 19).toInt = (σ.1 0 19).toInt → l_X8_readsWinds_0_32 a n32 S25 = (f_X8_readsWinds_0 σ a) → (9 - (S25.1 0 18).toInt).toNat < n32 → kw_AW l 3 kw_E0 KM mX8_readsWinds (p_X8_readsWinds_0 T σ a) 32 [(0, .ref 0), (1, .int a)] [] S25 := by
      intro n32
      induction n32 with
      | zero => intro S25 I26 F27 v30 hF m31; exact absurd m31 (Nat.not_lt_zero _)
      | succ n32 ih29 =>
        intro S25 I26 F27 v30 hF m31
        replace hF := kf_st (l_X8_readsWinds_0_32_s _ _ _) hF
        refine kw_aload_n (pc := 32) (i := 19) (k := 0) (n := 0) rfl rfl rfl ?_
        refine kw_get (pc := 33) (i := 20) (v := .int (S25.1 0 18)) rfl rfl rfl lkX8_138 (fun _ => rfl) ?_
        have b33 : 0 ≤ (S25.1 0 18).toInt ∧ (S25.1 0 18).toInt ≤ 8 := I26 0 18
        refine kw_bipush (pc := 36) (i := 21) (v := 8) rfl rfl ?_
        refine kw_icmp_ge (pc := 38) (i := 22) (tgt := 97) rfl rfl (fun c34 => ?_) (fun c34 => ?_)
        · replace hF := kf_nl c34 hF
          refine kw_aload_n (pc := 97) (i := 55) (k := 0) (n := 0) rfl rfl rfl ?_
          refine kw_get (pc := 98) (i := 56) (v := .int (S25.1 0 18)) rfl rfl rfl lkX8_138 (fun _ => rfl) ?_
          refine kw_if_le (pc := 101) (i := 57) (tgt := 108) rfl rfl (fun c35 => ?_) (fun c35 => ?_)
          · replace hF := kf_nl c35 hF
            refine kw_iconst (pc := 108) (i := 60) (v := 0) rfl rfl ?_
            exact kw_ireturn (pc := 109) (i := 61) (ty := .boolean) rfl rfl rfl ⟨⟨I26, F27⟩, _, rfl, by omega, (show ((0 : Int32).toInt = 0 ∨ 1 ≤ (S25.1 0 18).toInt) from by omega), (show (S25.1 0 19).toInt = (σ.1 0 19).toInt from by omega), hF⟩
          · replace hF := kf_p c35 hF
            refine kw_iconst (pc := 104) (i := 58) (v := 1) rfl rfl ?_
            refine kw_goto (pc := 105) (i := 59) (tgt := 109) rfl rfl ?_
            exact kw_ireturn (pc := 109) (i := 61) (ty := .boolean) rfl rfl rfl ⟨⟨I26, F27⟩, _, rfl, by omega, (show ((1 : Int32).toInt = 0 ∨ 1 ≤ (S25.1 0 18).toInt) from by omega), (show (S25.1 0 19).toInt = (σ.1 0 19).toInt from by omega), hF⟩
        · replace hF := kf_p c34 hF
          refine kw_aload_n (pc := 41) (i := 23) (k := 0) (n := 0) rfl rfl rfl ?_
          refine kw_iload_n (pc := 42) (i := 24) (k := 1) (n := 1) rfl rfl rfl ?_
          refine kw_callV (pc := 43) (i := 25) (Y := mX8_here) (a := 0) (As := [.int a]) (st := []) kw_hE rfl rfl lvX8_131 arX8_here (c_X8_here_0 l T hT0 hT1 S25 I26 a (by first | omega | decide) (by first | omega | decide)) (by decide) (Nat.le_of_ble_eq_true rfl) rfl (fun v S37 p36 => ?_)
          obtain ⟨e41, z40, rfl, f38, ef39⟩ := p36
          rw [e41]
          replace hF := kf_le ef39 hF
          have f38 : (z40.toInt = -9 ∨ (S25.1 0 17).toInt < 60) := f38
          have r_z40 := kw_rng z40
          show kw_AW l 3 kw_E0 KM mX8_readsWinds (p_X8_readsWinds_0 T σ a) 46 [(0, .ref 0), (1, .int a)] [.int z40] S25
          refine kw_bipush (pc := 46) (i := 26) (v := 48) rfl rfl ?_
          refine kw_isub (pc := 48) (i := 27) rfl (fun z42 e_z42 t_z42 => ?_)
          replace hF := kf_le e_z42 hF
          first | (have u_z42 : z42.toInt = z40.toInt - 48 := (by omega); clear t_z42) | skip
          refine kw_iconst (pc := 49) (i := 28) (v := 0) rfl rfl ?_
          refine kw_iconst (pc := 50) (i := 29) (v := 5) rfl rfl ?_
          refine kw_callS (pc := 51) (i := 30) (Y := mX8_in) (As := [.int z42, .int 0, .int 5]) (st := []) kw_hE rfl lsX8_93 arX8_in (c_X8_in l T hT0 hT1 S25 I26 z42 0 5 ) (by decide) (Nat.le_of_ble_eq_true rfl) rfl (fun v S44 p43 => ?_)
          obtain ⟨e50, z49, rfl, f45, f46, f47, ef48⟩ := p43
          rw [e50]
          replace hF := kf_le ef48 hF
          have r_z49 := kw_rng z49
          show kw_AW l 3 kw_E0 KM mX8_readsWinds (p_X8_readsWinds_0 T σ a) 54 [(0, .ref 0), (1, .int a)] [.int z49] S25
          refine kw_if_eq (pc := 54) (i := 31) (tgt := 97) rfl rfl (fun c51 => ?_) (fun c51 => ?_)
          · replace hF := kf_p c51 hF
            refine kw_aload_n (pc := 97) (i := 55) (k := 0) (n := 0) rfl rfl rfl ?_
            refine kw_get (pc := 98) (i := 56) (v := .int (S25.1 0 18)) rfl rfl rfl lkX8_138 (fun _ => rfl) ?_
            refine kw_if_le (pc := 101) (i := 57) (tgt := 108) rfl rfl (fun c52 => ?_) (fun c52 => ?_)
            · replace hF := kf_nl c52 hF
              refine kw_iconst (pc := 108) (i := 60) (v := 0) rfl rfl ?_
              exact kw_ireturn (pc := 109) (i := 61) (ty := .boolean) rfl rfl rfl ⟨⟨I26, F27⟩, _, rfl, by omega, (show ((0 : Int32).toInt = 0 ∨ 1 ≤ (S25.1 0 18).toInt) from by omega), (show (S25.1 0 19).toInt = (σ.1 0 19).toInt from by omega), hF⟩
            · replace hF := kf_p c52 hF
              refine kw_iconst (pc := 104) (i := 58) (v := 1) rfl rfl ?_
              refine kw_goto (pc := 105) (i := 59) (tgt := 109) rfl rfl ?_
              exact kw_ireturn (pc := 109) (i := 61) (ty := .boolean) rfl rfl rfl ⟨⟨I26, F27⟩, _, rfl, by omega, (show ((1 : Int32).toInt = 0 ∨ 1 ≤ (S25.1 0 18).toInt) from by omega), (show (S25.1 0 19).toInt = (σ.1 0 19).toInt from by omega), hF⟩
          · replace hF := kf_n c51 hF
            refine kw_aload_n (pc := 57) (i := 32) (k := 0) (n := 0) rfl rfl rfl ?_
            refine kw_get (pc := 58) (i := 33) (v := .ref 12) rfl rfl rfl lkX8_51 (fun _ => rfl) ?_
            refine kw_aload_n (pc := 61) (i := 34) (k := 0) (n := 0) rfl rfl rfl ?_
            refine kw_get (pc := 62) (i := 35) (v := .int (S25.1 0 18)) rfl rfl rfl lkX8_138 (fun _ => rfl) ?_
            refine kw_aload_n (pc := 65) (i := 36) (k := 0) (n := 0) rfl rfl rfl ?_
            refine kw_iload_n (pc := 66) (i := 37) (k := 1) (n := 1) rfl rfl rfl ?_
            refine kw_callV (pc := 67) (i := 38) (Y := mX8_here) (a := 0) (As := [.int a]) (st := [.int (S25.1 0 18), .ref 12]) kw_hE rfl rfl lvX8_131 arX8_here (c_X8_here_0 l T hT0 hT1 S25 I26 a (by first | omega | decide) (by first | omega | decide)) (by decide) (Nat.le_of_ble_eq_true rfl) rfl (fun v S54 p53 => ?_)
            obtain ⟨e58, z57, rfl, f55, ef56⟩ := p53
            rw [e58]
            replace hF := kf_le ef56 hF
            have f55 : (z57.toInt = -9 ∨ (S25.1 0 17).toInt < 60) := f55
            have r_z57 := kw_rng z57
            show kw_AW l 3 kw_E0 KM mX8_readsWinds (p_X8_readsWinds_0 T σ a) 70 [(0, .ref 0), (1, .int a)] [.int z57, .int (S25.1 0 18), .ref 12] S25
            refine kw_bipush (pc := 70) (i := 39) (v := 48) rfl rfl ?_
            refine kw_isub (pc := 72) (i := 40) rfl (fun z59 e_z59 t_z59 => ?_)
            replace hF := kf_le e_z59 hF
            first | (have u_z59 : z59.toInt = z57.toInt - 48 := (by omega); clear t_z59) | skip
            refine kw_iast (pc := 73) (i := 41) (n := 8) rfl rfl (by omega) (by omega) ?_
            have I60 : kw_I (bM T) (kw_ui S25 12 (S25.1 0 18).toNatClampNeg z59) := kw_I_ui I26 (kw_rng z59).1 (Int.le_of_lt_add_one (kw_rng z59).2)
            have F61 : kw_FM [12, 1017, 1018] σ (kw_ui S25 12 (S25.1 0 18).toNatClampNeg z59) := kw_FM_ui F27 (by decide) (by decide)
            refine kw_aload_n (pc := 74) (i := 42) (k := 0) (n := 0) rfl rfl rfl ?_
            refine kw_dup (pc := 75) (i := 43) rfl rfl ?_
            refine kw_get (pc := 76) (i := 44) (v := .int (S25.1 0 18)) rfl rfl rfl lkX8_138 (fun _ => rfl) ?_
            refine kw_iconst (pc := 79) (i := 45) (v := 1) rfl rfl ?_
            refine kw_iadd (pc := 80) (i := 46) rfl (fun z62 e_z62 t_z62 => ?_)
            replace hF := kf_le e_z62 hF
            first | (have u_z62 : z62.toInt = (S25.1 0 18).toInt + 1 := (by omega); clear t_z62) | skip
            refine kw_puti (pc := 81) (i := 47) (z := 0) rfl rfl rfl lpX8_138 rfl rfl ?_
            have I63 : kw_I (bM T) (kw_ui (kw_ui S25 12 (S25.1 0 18).toNatClampNeg z59) 0 18 z62) := kw_I_ui I60 (show 0 ≤ z62.toInt by omega) (show z62.toInt ≤ 8 by omega)
            have F64 : kw_FM [12, 1017, 1018] σ (kw_ui (kw_ui S25 12 (S25.1 0 18).toNatClampNeg z59) 0 18 z62) := kw_FM_ui0 F61 (by decide)
            refine kw_aload_n (pc := 84) (i := 48) (k := 0) (n := 0) rfl rfl rfl ?_
            refine kw_dup (pc := 85) (i := 49) rfl rfl ?_
            refine kw_get (pc := 86) (i := 50) (v := .int (S25.1 0 17)) rfl rfl rfl lkX8_128 (fun _ => rfl) ?_
            have b65 : 0 ≤ (S25.1 0 17).toInt ∧ (S25.1 0 17).toInt ≤ 60 := I26 0 17
            refine kw_iconst (pc := 89) (i := 51) (v := 1) rfl rfl ?_
            refine kw_iadd (pc := 90) (i := 52) rfl (fun z66 e_z66 t_z66 => ?_)
            replace hF := kf_le e_z66 hF
            first | (have u_z66 : z66.toInt = (S25.1 0 17).toInt + 1 := (by omega); clear t_z66) | skip
            refine kw_puti (pc := 91) (i := 53) (z := 0) rfl rfl rfl lpX8_128 rfl rfl ?_
            have I67 : kw_I (bM T) (kw_ui (kw_ui (kw_ui S25 12 (S25.1 0 18).toNatClampNeg z59) 0 18 z62) 0 17 z66) := kw_I_ui I63 (show 0 ≤ z66.toInt by omega) (show z66.toInt ≤ 60 by omega)
            have F68 : kw_FM [12, 1017, 1018] σ (kw_ui (kw_ui (kw_ui S25 12 (S25.1 0 18).toNatClampNeg z59) 0 18 z62) 0 17 z66) := kw_FM_ui0 F64 (by decide)
            refine kw_goto (pc := 94) (i := 54) (tgt := 32) rfl rfl ?_
            refine kw_sub (lv' := [(0, .ref 0), (1, .int a)]) [0, 1] rfl ?_
            exact ih29 (kw_ui (kw_ui (kw_ui S25 12 (S25.1 0 18).toNatClampNeg z59) 0 18 z62) 0 17 z66) I67 F68 (show (S25.1 0 19).toInt = (σ.1 0 19).toInt from by omega) hF (show (9 - z62.toInt).toNat < n32 from by omega)
    exact L28 _ (kw_ui (kw_ui S2 0 17 z20) 0 18 0) I23 F24 (show (S2.1 0 19).toInt = (σ.1 0 19).toInt from by omega) hF (Nat.lt_succ_self _)
  · replace hF := kf_n c18 hF
    refine kw_iconst (pc := 15) (i := 8) (v := 0) rfl rfl ?_
    exact kw_ireturn (pc := 16) (i := 9) (ty := .boolean) rfl rfl rfl ⟨⟨I7, F9⟩, _, rfl, by omega, (show ((0 : Int32).toInt = 0 ∨ 1 ≤ (S2.1 0 18).toInt) from by omega), (show (S2.1 0 19).toInt = (σ.1 0 19).toInt from by omega), hF⟩
noncomputable def f_X8_kindBy (σ : kw_S) (c : Int32) : Int32 := if c.toInt = (108 : Int32).toInt then ((0 : Int32)) else (if c.toInt = (115 : Int32).toInt then ((1 : Int32)) else (if c.toInt = (98 : Int32).toInt then ((2 : Int32)) else (if c.toInt = (107 : Int32).toInt then ((3 : Int32)) else (if c.toInt = (111 : Int32).toInt then ((4 : Int32)) else (if c.toInt = (112 : Int32).toInt then ((5 : Int32)) else (((-9) : Int32)))))))
theorem f_X8_kindBy_u (σ : kw_S) (c : Int32) : f_X8_kindBy σ c = if c.toInt = (108 : Int32).toInt then ((0 : Int32)) else (if c.toInt = (115 : Int32).toInt then ((1 : Int32)) else (if c.toInt = (98 : Int32).toInt then ((2 : Int32)) else (if c.toInt = (107 : Int32).toInt then ((3 : Int32)) else (if c.toInt = (111 : Int32).toInt then ((4 : Int32)) else (if c.toInt = (112 : Int32).toInt then ((5 : Int32)) else (((-9) : Int32))))))) := rfl
abbrev p_X8_kindBy (T : Int) (σ : kw_S) (c : Int32) : Option Value → kw_S → Prop := fun vv σ' => σ' = σ ∧ ∃ r : Int32, vv = some (.int r) ∧ (r.toInt = -9 ∨ 98 ≤ c.toInt) ∧ r = f_X8_kindBy σ c
set_option maxRecDepth 100000 in
set_option maxHeartbeats 4000000 in
theorem c_X8_kindBy (l : Launch) (T : Int) (hT0 : 0 ≤ T) (hT1 : T ≤ 3000) (σ : kw_S) (hI : kw_I (bM T) σ) (c : Int32) : kw_Met l 1 KM mX8_kindBy [.int c] σ (p_X8_kindBy T σ c) := by
  have r_c := kw_rng c
  have hF := (f_X8_kindBy_u σ c).symm
  have q_m9 : (-9 : Int32).toInt = -9 := rfl
  have q_0 : (0 : Int32).toInt = 0 := rfl
  have q_1 : (1 : Int32).toInt = 1 := rfl
  have q_2 : (2 : Int32).toInt = 2 := rfl
  have q_3 : (3 : Int32).toInt = 3 := rfl
  have q_4 : (4 : Int32).toInt = 4 := rfl
  have q_5 : (5 : Int32).toInt = 5 := rfl
  have q_98 : (98 : Int32).toInt = 98 := rfl
  have q_107 : (107 : Int32).toInt = 107 := rfl
  have q_108 : (108 : Int32).toInt = 108 := rfl
  have q_111 : (111 : Int32).toInt = 111 := rfl
  have q_112 : (112 : Int32).toInt = 112 := rfl
  have q_115 : (115 : Int32).toInt = 115 := rfl
  refine kw_Met.of (by decide) rfl tX8_kindBy (Nat.le_of_ble_eq_true rfl) ?_
  show kw_AW l 1 kw_E0 KM mX8_kindBy (p_X8_kindBy T σ c) 0 [(0, .int c)] [] σ
  refine kw_iload_n (pc := 0) (i := 0) (k := 0) (n := 0) rfl rfl rfl ?_
  refine kw_bipush (pc := 1) (i := 1) (v := 108) rfl rfl ?_
  refine kw_icmp_ne (pc := 3) (i := 2) (tgt := 10) rfl rfl (fun c1 => ?_) (fun c1 => ?_)
  · replace hF := kf_n c1 hF
    refine kw_iload_n (pc := 10) (i := 5) (k := 0) (n := 0) rfl rfl rfl ?_
    refine kw_bipush (pc := 11) (i := 6) (v := 115) rfl rfl ?_
    refine kw_icmp_ne (pc := 13) (i := 7) (tgt := 20) rfl rfl (fun c2 => ?_) (fun c2 => ?_)
    · replace hF := kf_n c2 hF
      refine kw_iload_n (pc := 20) (i := 10) (k := 0) (n := 0) rfl rfl rfl ?_
      refine kw_bipush (pc := 21) (i := 11) (v := 98) rfl rfl ?_
      refine kw_icmp_ne (pc := 23) (i := 12) (tgt := 30) rfl rfl (fun c3 => ?_) (fun c3 => ?_)
      · replace hF := kf_n c3 hF
        refine kw_iload_n (pc := 30) (i := 15) (k := 0) (n := 0) rfl rfl rfl ?_
        refine kw_bipush (pc := 31) (i := 16) (v := 107) rfl rfl ?_
        refine kw_icmp_ne (pc := 33) (i := 17) (tgt := 40) rfl rfl (fun c4 => ?_) (fun c4 => ?_)
        · replace hF := kf_n c4 hF
          refine kw_iload_n (pc := 40) (i := 20) (k := 0) (n := 0) rfl rfl rfl ?_
          refine kw_bipush (pc := 41) (i := 21) (v := 111) rfl rfl ?_
          refine kw_icmp_ne (pc := 43) (i := 22) (tgt := 50) rfl rfl (fun c5 => ?_) (fun c5 => ?_)
          · replace hF := kf_n c5 hF
            refine kw_iload_n (pc := 50) (i := 25) (k := 0) (n := 0) rfl rfl rfl ?_
            refine kw_bipush (pc := 51) (i := 26) (v := 112) rfl rfl ?_
            refine kw_icmp_ne (pc := 53) (i := 27) (tgt := 60) rfl rfl (fun c6 => ?_) (fun c6 => ?_)
            · replace hF := kf_n c6 hF
              refine kw_bipush (pc := 60) (i := 30) (v := (-9)) rfl rfl ?_
              exact kw_ireturn (pc := 62) (i := 31) (ty := .int) rfl rfl rfl ⟨rfl, _, rfl, by omega, hF⟩
            · replace hF := kf_p c6 hF
              refine kw_iconst (pc := 56) (i := 28) (v := 5) rfl rfl ?_
              refine kw_goto (pc := 57) (i := 29) (tgt := 62) rfl rfl ?_
              exact kw_ireturn (pc := 62) (i := 31) (ty := .int) rfl rfl rfl ⟨rfl, _, rfl, by omega, hF⟩
          · replace hF := kf_p c5 hF
            refine kw_iconst (pc := 46) (i := 23) (v := 4) rfl rfl ?_
            refine kw_goto (pc := 47) (i := 24) (tgt := 62) rfl rfl ?_
            exact kw_ireturn (pc := 62) (i := 31) (ty := .int) rfl rfl rfl ⟨rfl, _, rfl, by omega, hF⟩
        · replace hF := kf_p c4 hF
          refine kw_iconst (pc := 36) (i := 18) (v := 3) rfl rfl ?_
          refine kw_goto (pc := 37) (i := 19) (tgt := 62) rfl rfl ?_
          exact kw_ireturn (pc := 62) (i := 31) (ty := .int) rfl rfl rfl ⟨rfl, _, rfl, by omega, hF⟩
      · replace hF := kf_p c3 hF
        refine kw_iconst (pc := 26) (i := 13) (v := 2) rfl rfl ?_
        refine kw_goto (pc := 27) (i := 14) (tgt := 62) rfl rfl ?_
        exact kw_ireturn (pc := 62) (i := 31) (ty := .int) rfl rfl rfl ⟨rfl, _, rfl, by omega, hF⟩
    · replace hF := kf_p c2 hF
      refine kw_iconst (pc := 16) (i := 8) (v := 1) rfl rfl ?_
      refine kw_goto (pc := 17) (i := 9) (tgt := 62) rfl rfl ?_
      exact kw_ireturn (pc := 62) (i := 31) (ty := .int) rfl rfl rfl ⟨rfl, _, rfl, by omega, hF⟩
  · replace hF := kf_p c1 hF
    refine kw_iconst (pc := 6) (i := 3) (v := 0) rfl rfl ?_
    refine kw_goto (pc := 7) (i := 4) (tgt := 62) rfl rfl ?_
    exact kw_ireturn (pc := 62) (i := 31) (ty := .int) rfl rfl rfl ⟨rfl, _, rfl, by omega, hF⟩
noncomputable def f_X8_readsLine_0 (σ : kw_S) (a : Int32) : Int32 × kw_S := kf_l (f_X8_here_0 σ a) fun z1 => kf_l (f_X8_kindBy σ z1) fun z2 => if z2.toInt = ((-9) : Int32).toInt then (((0 : Int32), σ)) else (if (σ.1 0 19).toInt = (6 : Int32).toInt then (((0 : Int32), σ)) else (kf_l ((4 : Int32) * (σ.1 0 19)) fun z3 => kf_l ((σ.1 0 17) + (1 : Int32)) fun z4 => kf_l (z3 + (1 : Int32)) fun z5 => kf_b (f_X8_figure_0 (kw_ui (kw_ui σ 13 z3.toNatClampNeg z2) 0 17 z4) a z5 (0 : Int32) (8 : Int32)) fun z6 S7 => if z6.toInt = 0 then (((0 : Int32), S7)) else (kf_l (z3 + (2 : Int32)) fun z8 => kf_b (f_X8_figure_0 S7 a z8 (1 : Int32) (9 : Int32)) fun z9 S10 => if z9.toInt = 0 then (((0 : Int32), S10)) else (kf_l (z3 + (3 : Int32)) fun z11 => kf_b (f_X8_figure_0 S10 a z11 (0 : Int32) (9 : Int32)) fun z12 S13 => if z12.toInt = 0 then (((0 : Int32), S13)) else (kf_l ((S13.1 0 19) + (1 : Int32)) fun z14 => ((1 : Int32), kw_ui S13 0 19 z14))))))
theorem f_X8_readsLine_0_u (σ : kw_S) (a : Int32) : f_X8_readsLine_0 σ a = kf_l (f_X8_here_0 σ a) fun z1 => kf_l (f_X8_kindBy σ z1) fun z2 => if z2.toInt = ((-9) : Int32).toInt then (((0 : Int32), σ)) else (if (σ.1 0 19).toInt = (6 : Int32).toInt then (((0 : Int32), σ)) else (kf_l ((4 : Int32) * (σ.1 0 19)) fun z3 => kf_l ((σ.1 0 17) + (1 : Int32)) fun z4 => kf_l (z3 + (1 : Int32)) fun z5 => kf_b (f_X8_figure_0 (kw_ui (kw_ui σ 13 z3.toNatClampNeg z2) 0 17 z4) a z5 (0 : Int32) (8 : Int32)) fun z6 S7 => if z6.toInt = 0 then (((0 : Int32), S7)) else (kf_l (z3 + (2 : Int32)) fun z8 => kf_b (f_X8_figure_0 S7 a z8 (1 : Int32) (9 : Int32)) fun z9 S10 => if z9.toInt = 0 then (((0 : Int32), S10)) else (kf_l (z3 + (3 : Int32)) fun z11 => kf_b (f_X8_figure_0 S10 a z11 (0 : Int32) (9 : Int32)) fun z12 S13 => if z12.toInt = 0 then (((0 : Int32), S13)) else (kf_l ((S13.1 0 19) + (1 : Int32)) fun z14 => ((1 : Int32), kw_ui S13 0 19 z14)))))) := rfl
abbrev p_X8_readsLine_0 (T : Int) (σ : kw_S) (a : Int32) : Option Value → kw_S → Prop := fun vv σ' => (kw_I (bM T) σ' ∧ kw_FM [13, 1017, 1019] σ σ') ∧ ∃ r : Int32, vv = some (.int r) ∧ (r.toInt = 0 ∨ r.toInt = 1) ∧ (r.toInt = 0 ∨ (σ.1 0 17).toInt < (σ'.1 0 17).toInt) ∧ (σ'.1 0 18).toInt = (σ.1 0 18).toInt ∧ (r, σ') = f_X8_readsLine_0 σ a
set_option maxRecDepth 100000 in
set_option maxHeartbeats 4000000 in
theorem c_X8_readsLine_0 (l : Launch) (T : Int) (hT0 : 0 ≤ T) (hT1 : T ≤ 3000) (σ : kw_S) (hI : kw_I (bM T) σ) (a : Int32) (hp0 : 0 ≤ a.toInt) (hp1 : a.toInt ≤ 3) : kw_Met l 3 KM mX8_readsLine [.ref 0, .int a] σ (p_X8_readsLine_0 T σ a) := by
  have r_a := kw_rng a
  have hF0 : kw_FM [13, 1017, 1019] σ σ := kw_FM.rf
  have hF := (f_X8_readsLine_0_u σ a).symm
  have q_m9 : (-9 : Int32).toInt = -9 := rfl
  have q_0 : (0 : Int32).toInt = 0 := rfl
  have q_1 : (1 : Int32).toInt = 1 := rfl
  have q_2 : (2 : Int32).toInt = 2 := rfl
  have q_3 : (3 : Int32).toInt = 3 := rfl
  have q_4 : (4 : Int32).toInt = 4 := rfl
  have q_6 : (6 : Int32).toInt = 6 := rfl
  have q_8 : (8 : Int32).toInt = 8 := rfl
  have q_9 : (9 : Int32).toInt = 9 := rfl
  refine kw_Met.of (by decide) rfl tX8_readsLine (Nat.le_of_ble_eq_true rfl) ?_
  show kw_AW l 3 kw_E0 KM mX8_readsLine (p_X8_readsLine_0 T σ a) 0 [(0, .ref 0), (1, .int a)] [] σ
  refine kw_aload_n (pc := 0) (i := 0) (k := 0) (n := 0) rfl rfl rfl ?_
  refine kw_iload_n (pc := 1) (i := 1) (k := 1) (n := 1) rfl rfl rfl ?_
  refine kw_callV (pc := 2) (i := 2) (Y := mX8_here) (a := 0) (As := [.int a]) (st := []) kw_hE rfl rfl lvX8_131 arX8_here (c_X8_here_0 l T hT0 hT1 σ hI a (by first | omega | decide) (by first | omega | decide)) (by decide) (Nat.le_of_ble_eq_true rfl) rfl (fun v S2 p1 => ?_)
  obtain ⟨e6, z5, rfl, f3, ef4⟩ := p1
  rw [e6]
  replace hF := kf_le ef4 hF
  have f3 : (z5.toInt = -9 ∨ (σ.1 0 17).toInt < 60) := f3
  have r_z5 := kw_rng z5
  show kw_AW l 3 kw_E0 KM mX8_readsLine (p_X8_readsLine_0 T σ a) 5 [(0, .ref 0), (1, .int a)] [.int z5] σ
  refine kw_callS (pc := 5) (i := 3) (Y := mX8_kindBy) (As := [.int z5]) (st := []) kw_hE rfl lsX8_141 arX8_kindBy (c_X8_kindBy l T hT0 hT1 σ hI z5 ) (by decide) (Nat.le_of_ble_eq_true rfl) rfl (fun v S8 p7 => ?_)
  obtain ⟨e12, z11, rfl, f9, ef10⟩ := p7
  rw [e12]
  replace hF := kf_le ef10 hF
  have r_z11 := kw_rng z11
  show kw_AW l 3 kw_E0 KM mX8_readsLine (p_X8_readsLine_0 T σ a) 8 [(0, .ref 0), (1, .int a)] [.int z11] σ
  refine kw_istore_n (pc := 8) (i := 4) (n := 2) (lv' := [(2, .int z11), (0, .ref 0), (1, .int a)]) rfl rfl (by decide) rfl ?_
  refine kw_iload_n (pc := 9) (i := 5) (k := 0) (n := 2) rfl rfl rfl ?_
  refine kw_bipush (pc := 10) (i := 6) (v := (-9)) rfl rfl ?_
  refine kw_icmp_eq (pc := 12) (i := 7) (tgt := 24) rfl rfl (fun c13 => ?_) (fun c13 => ?_)
  · replace hF := kf_p c13 hF
    refine kw_iconst (pc := 24) (i := 12) (v := 0) rfl rfl ?_
    exact kw_ireturn (pc := 25) (i := 13) (ty := .boolean) rfl rfl rfl ⟨⟨hI, hF0⟩, _, rfl, by omega, (show ((0 : Int32).toInt = 0 ∨ (σ.1 0 17).toInt < (σ.1 0 17).toInt) from by omega), (show (σ.1 0 18).toInt = (σ.1 0 18).toInt from by omega), hF⟩
  · replace hF := kf_n c13 hF
    refine kw_aload_n (pc := 15) (i := 8) (k := 1) (n := 0) rfl rfl rfl ?_
    refine kw_get (pc := 16) (i := 9) (v := .int (σ.1 0 19)) rfl rfl rfl lkX8_144 (fun _ => rfl) ?_
    have b14 : 0 ≤ (σ.1 0 19).toInt ∧ (σ.1 0 19).toInt ≤ 6 := hI 0 19
    refine kw_bipush (pc := 19) (i := 10) (v := 6) rfl rfl ?_
    refine kw_icmp_ne (pc := 21) (i := 11) (tgt := 26) rfl rfl (fun c15 => ?_) (fun c15 => ?_)
    · replace hF := kf_n c15 hF
      refine kw_iconst (pc := 26) (i := 14) (v := 4) rfl rfl ?_
      refine kw_aload_n (pc := 27) (i := 15) (k := 1) (n := 0) rfl rfl rfl ?_
      refine kw_get (pc := 28) (i := 16) (v := .int (σ.1 0 19)) rfl rfl rfl lkX8_144 (fun _ => rfl) ?_
      refine kw_imul (pc := 31) (i := 17) rfl (fun z16 e_z16 t_z16 => ?_)
      replace hF := kf_le e_z16 hF
      rw [show (4 : Int32).toInt = 4 from rfl] at t_z16
      first | (have u_z16 : z16.toInt = 4 * (σ.1 0 19).toInt := (by omega); clear t_z16) | skip
      refine kw_istore_n (pc := 32) (i := 18) (n := 3) (lv' := [(3, .int z16), (2, .int z11), (0, .ref 0), (1, .int a)]) rfl rfl (by decide) rfl ?_
      refine kw_aload_n (pc := 33) (i := 19) (k := 2) (n := 0) rfl rfl rfl ?_
      refine kw_get (pc := 34) (i := 20) (v := .ref 13) rfl rfl rfl lkX8_54 (fun _ => rfl) ?_
      refine kw_iload_n (pc := 37) (i := 21) (k := 0) (n := 3) rfl rfl rfl ?_
      refine kw_iload_n (pc := 38) (i := 22) (k := 1) (n := 2) rfl rfl rfl ?_
      refine kw_iast (pc := 39) (i := 23) (n := 24) rfl rfl (by omega) (by omega) ?_
      have I17 : kw_I (bM T) (kw_ui σ 13 z16.toNatClampNeg z11) := kw_I_ui hI (kw_rng z11).1 (Int.le_of_lt_add_one (kw_rng z11).2)
      have F18 : kw_FM [13, 1017, 1019] σ (kw_ui σ 13 z16.toNatClampNeg z11) := kw_FM_ui hF0 (by decide) (by decide)
      refine kw_aload_n (pc := 40) (i := 24) (k := 2) (n := 0) rfl rfl rfl ?_
      refine kw_dup (pc := 41) (i := 25) rfl rfl ?_
      refine kw_get (pc := 42) (i := 26) (v := .int (σ.1 0 17)) rfl rfl rfl lkX8_128 (fun _ => rfl) ?_
      have b19 : 0 ≤ (σ.1 0 17).toInt ∧ (σ.1 0 17).toInt ≤ 60 := hI 0 17
      refine kw_iconst (pc := 45) (i := 27) (v := 1) rfl rfl ?_
      refine kw_iadd (pc := 46) (i := 28) rfl (fun z20 e_z20 t_z20 => ?_)
      replace hF := kf_le e_z20 hF
      first | (have u_z20 : z20.toInt = (σ.1 0 17).toInt + 1 := (by omega); clear t_z20) | skip
      refine kw_puti (pc := 47) (i := 29) (z := 0) rfl rfl rfl lpX8_128 rfl rfl ?_
      have I21 : kw_I (bM T) (kw_ui (kw_ui σ 13 z16.toNatClampNeg z11) 0 17 z20) := kw_I_ui I17 (show 0 ≤ z20.toInt by omega) (show z20.toInt ≤ 60 by omega)
      have F22 : kw_FM [13, 1017, 1019] σ (kw_ui (kw_ui σ 13 z16.toNatClampNeg z11) 0 17 z20) := kw_FM_ui0 F18 (by decide)
      refine kw_aload_n (pc := 50) (i := 30) (k := 2) (n := 0) rfl rfl rfl ?_
      refine kw_iload_n (pc := 51) (i := 31) (k := 3) (n := 1) rfl rfl rfl ?_
      refine kw_iload_n (pc := 52) (i := 32) (k := 0) (n := 3) rfl rfl rfl ?_
      refine kw_iconst (pc := 53) (i := 33) (v := 1) rfl rfl ?_
      refine kw_iadd (pc := 54) (i := 34) rfl (fun z23 e_z23 t_z23 => ?_)
      replace hF := kf_le e_z23 hF
      first | (have u_z23 : z23.toInt = z16.toInt + 1 := (by omega); clear t_z23) | skip
      refine kw_iconst (pc := 55) (i := 35) (v := 0) rfl rfl ?_
      refine kw_bipush (pc := 56) (i := 36) (v := 8) rfl rfl ?_
      refine kw_callV (pc := 58) (i := 37) (Y := mX8_figure) (a := 0) (As := [.int a, .int z23, .int 0, .int 8]) (st := []) kw_hE rfl rfl lvX8_147 arX8_figure (c_X8_figure_0 l T hT0 hT1 (kw_ui (kw_ui σ 13 z16.toNatClampNeg z11) 0 17 z20) I21 a z23 0 8 (by first | omega | decide) (by first | omega | decide) (by first | omega | decide) (by first | omega | decide) (by first | omega | decide)) (by decide) (Nat.le_of_ble_eq_true rfl) rfl (fun v S25 p24 => ?_)
      obtain ⟨⟨I32, F33⟩, z31, rfl, f26, f27, f28, f29, ef30⟩ := p24
      have F34 : kw_FM [13, 1017, 1019] σ S25 := kw_FM.tr F22 F33 (by decide)
      have w_35 : (S25.1 0 18).toInt = (σ.1 0 18).toInt := congrArg Int32.toInt (kw_FM.at0 (j := 18) F33 (by decide))
      have w_36 : (S25.1 0 27).toInt = (σ.1 0 27).toInt := congrArg Int32.toInt (kw_FM.at0 (j := 27) F33 (by decide))
      replace hF := kf_be ef30 hF
      have f27 : z20.toInt ≤ (S25.1 0 17).toInt := f27
      have f28 : (S25.1 0 18).toInt = (σ.1 0 18).toInt := f28
      have f29 : (S25.1 0 19).toInt = (σ.1 0 19).toInt := f29
      have r_z31 := kw_rng z31
      show kw_AW l 3 kw_E0 KM mX8_readsLine (p_X8_readsLine_0 T σ a) 61 [(3, .int z16), (2, .int z11), (0, .ref 0), (1, .int a)] [.int z31] S25
      refine kw_if_eq (pc := 61) (i := 38) (tgt := 92) rfl rfl (fun c37 => ?_) (fun c37 => ?_)
      · replace hF := kf_p c37 hF
        refine kw_iconst (pc := 92) (i := 57) (v := 0) rfl rfl ?_
        exact kw_ireturn (pc := 93) (i := 58) (ty := .boolean) rfl rfl rfl ⟨⟨I32, F34⟩, _, rfl, by omega, (show ((0 : Int32).toInt = 0 ∨ (σ.1 0 17).toInt < (S25.1 0 17).toInt) from by omega), (show (S25.1 0 18).toInt = (σ.1 0 18).toInt from by omega), hF⟩
      · replace hF := kf_n c37 hF
        refine kw_aload_n (pc := 64) (i := 39) (k := 2) (n := 0) rfl rfl rfl ?_
        refine kw_iload_n (pc := 65) (i := 40) (k := 3) (n := 1) rfl rfl rfl ?_
        refine kw_iload_n (pc := 66) (i := 41) (k := 0) (n := 3) rfl rfl rfl ?_
        refine kw_iconst (pc := 67) (i := 42) (v := 2) rfl rfl ?_
        refine kw_iadd (pc := 68) (i := 43) rfl (fun z38 e_z38 t_z38 => ?_)
        replace hF := kf_le e_z38 hF
        first | (have u_z38 : z38.toInt = z16.toInt + 2 := (by omega); clear t_z38) | skip
        refine kw_iconst (pc := 69) (i := 44) (v := 1) rfl rfl ?_
        refine kw_bipush (pc := 70) (i := 45) (v := 9) rfl rfl ?_
        refine kw_callV (pc := 72) (i := 46) (Y := mX8_figure) (a := 0) (As := [.int a, .int z38, .int 1, .int 9]) (st := []) kw_hE rfl rfl lvX8_147 arX8_figure (c_X8_figure_0 l T hT0 hT1 S25 I32 a z38 1 9 (by first | omega | decide) (by first | omega | decide) (by first | omega | decide) (by first | omega | decide) (by first | omega | decide)) (by decide) (Nat.le_of_ble_eq_true rfl) rfl (fun v S40 p39 => ?_)
        obtain ⟨⟨I47, F48⟩, z46, rfl, f41, f42, f43, f44, ef45⟩ := p39
        have F49 : kw_FM [13, 1017, 1019] σ S40 := kw_FM.tr F34 F48 (by decide)
        have w_50 : (S40.1 0 18).toInt = (S25.1 0 18).toInt := congrArg Int32.toInt (kw_FM.at0 (j := 18) F48 (by decide))
        have w_51 : (S40.1 0 27).toInt = (S25.1 0 27).toInt := congrArg Int32.toInt (kw_FM.at0 (j := 27) F48 (by decide))
        replace hF := kf_be ef45 hF
        have f42 : (S25.1 0 17).toInt ≤ (S40.1 0 17).toInt := f42
        have f43 : (S40.1 0 18).toInt = (S25.1 0 18).toInt := f43
        have f44 : (S40.1 0 19).toInt = (S25.1 0 19).toInt := f44
        have r_z46 := kw_rng z46
        show kw_AW l 3 kw_E0 KM mX8_readsLine (p_X8_readsLine_0 T σ a) 75 [(3, .int z16), (2, .int z11), (0, .ref 0), (1, .int a)] [.int z46] S40
        refine kw_if_eq (pc := 75) (i := 47) (tgt := 92) rfl rfl (fun c52 => ?_) (fun c52 => ?_)
        · replace hF := kf_p c52 hF
          refine kw_iconst (pc := 92) (i := 57) (v := 0) rfl rfl ?_
          exact kw_ireturn (pc := 93) (i := 58) (ty := .boolean) rfl rfl rfl ⟨⟨I47, F49⟩, _, rfl, by omega, (show ((0 : Int32).toInt = 0 ∨ (σ.1 0 17).toInt < (S40.1 0 17).toInt) from by omega), (show (S40.1 0 18).toInt = (σ.1 0 18).toInt from by omega), hF⟩
        · replace hF := kf_n c52 hF
          refine kw_aload_n (pc := 78) (i := 48) (k := 2) (n := 0) rfl rfl rfl ?_
          refine kw_iload_n (pc := 79) (i := 49) (k := 3) (n := 1) rfl rfl rfl ?_
          refine kw_iload_n (pc := 80) (i := 50) (k := 0) (n := 3) rfl rfl rfl ?_
          refine kw_iconst (pc := 81) (i := 51) (v := 3) rfl rfl ?_
          refine kw_iadd (pc := 82) (i := 52) rfl (fun z53 e_z53 t_z53 => ?_)
          replace hF := kf_le e_z53 hF
          first | (have u_z53 : z53.toInt = z16.toInt + 3 := (by omega); clear t_z53) | skip
          refine kw_iconst (pc := 83) (i := 53) (v := 0) rfl rfl ?_
          refine kw_bipush (pc := 84) (i := 54) (v := 9) rfl rfl ?_
          refine kw_callV (pc := 86) (i := 55) (Y := mX8_figure) (a := 0) (As := [.int a, .int z53, .int 0, .int 9]) (st := []) kw_hE rfl rfl lvX8_147 arX8_figure (c_X8_figure_0 l T hT0 hT1 S40 I47 a z53 0 9 (by first | omega | decide) (by first | omega | decide) (by first | omega | decide) (by first | omega | decide) (by first | omega | decide)) (by decide) (Nat.le_of_ble_eq_true rfl) rfl (fun v S55 p54 => ?_)
          obtain ⟨⟨I62, F63⟩, z61, rfl, f56, f57, f58, f59, ef60⟩ := p54
          have F64 : kw_FM [13, 1017, 1019] σ S55 := kw_FM.tr F49 F63 (by decide)
          have w_65 : (S55.1 0 18).toInt = (S40.1 0 18).toInt := congrArg Int32.toInt (kw_FM.at0 (j := 18) F63 (by decide))
          have w_66 : (S55.1 0 27).toInt = (S40.1 0 27).toInt := congrArg Int32.toInt (kw_FM.at0 (j := 27) F63 (by decide))
          replace hF := kf_be ef60 hF
          have f57 : (S40.1 0 17).toInt ≤ (S55.1 0 17).toInt := f57
          have f58 : (S55.1 0 18).toInt = (S40.1 0 18).toInt := f58
          have f59 : (S55.1 0 19).toInt = (S40.1 0 19).toInt := f59
          have r_z61 := kw_rng z61
          show kw_AW l 3 kw_E0 KM mX8_readsLine (p_X8_readsLine_0 T σ a) 89 [(3, .int z16), (2, .int z11), (0, .ref 0), (1, .int a)] [.int z61] S55
          refine kw_if_ne (pc := 89) (i := 56) (tgt := 94) rfl rfl (fun c67 => ?_) (fun c67 => ?_)
          · replace hF := kf_n c67 hF
            refine kw_aload_n (pc := 94) (i := 59) (k := 2) (n := 0) rfl rfl rfl ?_
            refine kw_dup (pc := 95) (i := 60) rfl rfl ?_
            refine kw_get (pc := 96) (i := 61) (v := .int (S55.1 0 19)) rfl rfl rfl lkX8_144 (fun _ => rfl) ?_
            have b68 : 0 ≤ (S55.1 0 19).toInt ∧ (S55.1 0 19).toInt ≤ 6 := I62 0 19
            refine kw_iconst (pc := 99) (i := 62) (v := 1) rfl rfl ?_
            refine kw_iadd (pc := 100) (i := 63) rfl (fun z69 e_z69 t_z69 => ?_)
            replace hF := kf_le e_z69 hF
            first | (have u_z69 : z69.toInt = (S55.1 0 19).toInt + 1 := (by omega); clear t_z69) | skip
            refine kw_puti (pc := 101) (i := 64) (z := 0) rfl rfl rfl lpX8_144 rfl rfl ?_
            have I70 : kw_I (bM T) (kw_ui S55 0 19 z69) := kw_I_ui I62 (show 0 ≤ z69.toInt by omega) (show z69.toInt ≤ 6 by omega)
            have F71 : kw_FM [13, 1017, 1019] σ (kw_ui S55 0 19 z69) := kw_FM_ui0 F64 (by decide)
            refine kw_iconst (pc := 104) (i := 65) (v := 1) rfl rfl ?_
            exact kw_ireturn (pc := 105) (i := 66) (ty := .boolean) rfl rfl rfl ⟨⟨I70, F71⟩, _, rfl, by omega, (show ((1 : Int32).toInt = 0 ∨ (σ.1 0 17).toInt < (S55.1 0 17).toInt) from by omega), (show (S55.1 0 18).toInt = (σ.1 0 18).toInt from by omega), hF⟩
          · replace hF := kf_p c67 hF
            refine kw_iconst (pc := 92) (i := 57) (v := 0) rfl rfl ?_
            exact kw_ireturn (pc := 93) (i := 58) (ty := .boolean) rfl rfl rfl ⟨⟨I62, F64⟩, _, rfl, by omega, (show ((0 : Int32).toInt = 0 ∨ (σ.1 0 17).toInt < (S55.1 0 17).toInt) from by omega), (show (S55.1 0 18).toInt = (σ.1 0 18).toInt from by omega), hF⟩
    · replace hF := kf_p c15 hF
      refine kw_iconst (pc := 24) (i := 12) (v := 0) rfl rfl ?_
      exact kw_ireturn (pc := 25) (i := 13) (ty := .boolean) rfl rfl rfl ⟨⟨hI, hF0⟩, _, rfl, by omega, (show ((0 : Int32).toInt = 0 ∨ (σ.1 0 17).toInt < (σ.1 0 17).toInt) from by omega), (show (σ.1 0 18).toInt = (σ.1 0 18).toInt from by omega), hF⟩
end
section
noncomputable def l_X8_readsTown_0_25 (a1 : Int32) : Nat → kw_S → Int32 × kw_S
  | 0, S => (0, S)
  | n + 1, S => kf_l (S.1 5 a1.toNatClampNeg) fun z4 => if (S.1 0 17).toInt < z4.toInt then (kf_b (f_X8_readsLine_0 S a1) fun z5 S6 => if z5.toInt = 0 then (((0 : Int32), S6)) else (kf_l (f_X8_skip_0 S6 a1) fun S7 => l_X8_readsTown_0_25 a1 n S7)) else (if 0 < (S.1 0 19).toInt then (((1 : Int32), S)) else (((0 : Int32), S)))
theorem l_X8_readsTown_0_25_s (a1 : Int32) (n : Nat) (S : kw_S) : l_X8_readsTown_0_25 a1 (n + 1) S = kf_l (S.1 5 a1.toNatClampNeg) fun z4 => if (S.1 0 17).toInt < z4.toInt then (kf_b (f_X8_readsLine_0 S a1) fun z5 S6 => if z5.toInt = 0 then (((0 : Int32), S6)) else (kf_l (f_X8_skip_0 S6 a1) fun S7 => l_X8_readsTown_0_25 a1 n S7)) else (if 0 < (S.1 0 19).toInt then (((1 : Int32), S)) else (((0 : Int32), S))) := rfl
noncomputable def f_X8_readsTown_0 (σ : kw_S) (a : Int32) : Int32 × kw_S := kf_b (f_X8_readsWinds_0 (kw_ui (kw_ui σ 0 17 0) 0 19 0) a) fun z1 S2 => if z1.toInt = 0 then (((0 : Int32), S2)) else (kf_l (f_X8_skip_0 S2 a) fun S3 => l_X8_readsTown_0_25 a ((61 - (S3.1 0 17).toInt).toNat + 1) S3)
theorem f_X8_readsTown_0_u (σ : kw_S) (a : Int32) : f_X8_readsTown_0 σ a = kf_b (f_X8_readsWinds_0 (kw_ui (kw_ui σ 0 17 0) 0 19 0) a) fun z1 S2 => if z1.toInt = 0 then (((0 : Int32), S2)) else (kf_l (f_X8_skip_0 S2 a) fun S3 => l_X8_readsTown_0_25 a ((61 - (S3.1 0 17).toInt).toNat + 1) S3) := rfl
abbrev p_X8_readsTown_0 (T : Int) (σ : kw_S) (a : Int32) : Option Value → kw_S → Prop := fun vv σ' => (kw_I (bM T) σ' ∧ kw_FM [12, 13, 1017, 1018, 1019] σ σ') ∧ ∃ r : Int32, vv = some (.int r) ∧ (r.toInt = 0 ∨ r.toInt = 1) ∧ (r.toInt = 0 ∨ 1 ≤ (σ'.1 0 18).toInt) ∧ (r, σ') = f_X8_readsTown_0 σ a
set_option maxRecDepth 100000 in
set_option maxHeartbeats 4000000 in
theorem c_X8_readsTown_0 (l : Launch) (T : Int) (hT0 : 0 ≤ T) (hT1 : T ≤ 3000) (σ : kw_S) (hI : kw_I (bM T) σ) (a : Int32) (hp0 : 0 ≤ a.toInt) (hp1 : a.toInt ≤ 3) : kw_Met l 4 KM mX8_readsTown [.ref 0, .int a] σ (p_X8_readsTown_0 T σ a) := by
  have r_a := kw_rng a
  have hF0 : kw_FM [12, 13, 1017, 1018, 1019] σ σ := kw_FM.rf
  have hF := (f_X8_readsTown_0_u σ a).symm
  have q_0 : (0 : Int32).toInt = 0 := rfl
  have q_1 : (1 : Int32).toInt = 1 := rfl
  refine kw_Met.of (by decide) rfl tX8_readsTown (Nat.le_of_ble_eq_true rfl) ?_
  show kw_AW l 4 kw_E0 KM mX8_readsTown (p_X8_readsTown_0 T σ a) 0 [(0, .ref 0), (1, .int a)] [] σ
  refine kw_aload_n (pc := 0) (i := 0) (k := 0) (n := 0) rfl rfl rfl ?_
  refine kw_iconst (pc := 1) (i := 1) (v := 0) rfl rfl ?_
  refine kw_puti (pc := 2) (i := 2) (z := 0) rfl rfl rfl lpX8_128 rfl rfl ?_
  have I1 : kw_I (bM T) (kw_ui σ 0 17 0) := kw_I_ui hI (show 0 ≤ (0 : Int32).toInt by omega) (show (0 : Int32).toInt ≤ 60 by omega)
  have F2 : kw_FM [12, 13, 1017, 1018, 1019] σ (kw_ui σ 0 17 0) := kw_FM_ui0 hF0 (by decide)
  refine kw_aload_n (pc := 5) (i := 3) (k := 0) (n := 0) rfl rfl rfl ?_
  refine kw_iconst (pc := 6) (i := 4) (v := 0) rfl rfl ?_
  refine kw_puti (pc := 7) (i := 5) (z := 0) rfl rfl rfl lpX8_144 rfl rfl ?_
  have I3 : kw_I (bM T) (kw_ui (kw_ui σ 0 17 0) 0 19 0) := kw_I_ui I1 (show 0 ≤ (0 : Int32).toInt by omega) (show (0 : Int32).toInt ≤ 6 by omega)
  have F4 : kw_FM [12, 13, 1017, 1018, 1019] σ (kw_ui (kw_ui σ 0 17 0) 0 19 0) := kw_FM_ui0 F2 (by decide)
  refine kw_aload_n (pc := 10) (i := 6) (k := 0) (n := 0) rfl rfl rfl ?_
  refine kw_iload_n (pc := 11) (i := 7) (k := 1) (n := 1) rfl rfl rfl ?_
  refine kw_callV (pc := 12) (i := 8) (Y := mX8_readsWinds) (a := 0) (As := [.int a]) (st := []) kw_hE rfl rfl lvX8_151 arX8_readsWinds (c_X8_readsWinds_0 l T hT0 hT1 (kw_ui (kw_ui σ 0 17 0) 0 19 0) I3 a (by first | omega | decide) (by first | omega | decide)) (by decide) (Nat.le_of_ble_eq_true rfl) rfl (fun v S6 p5 => ?_)
  obtain ⟨⟨I12, F13⟩, z11, rfl, f7, f8, f9, ef10⟩ := p5
  have F14 : kw_FM [12, 13, 1017, 1018, 1019] σ S6 := kw_FM.tr F4 F13 (by decide)
  have w_15 : (S6.1 0 27).toInt = (σ.1 0 27).toInt := congrArg Int32.toInt (kw_FM.at0 (j := 27) F13 (by decide))
  replace hF := kf_be ef10 hF
  have f8 : (z11.toInt = 0 ∨ 1 ≤ (S6.1 0 18).toInt) := f8
  have f9 : (S6.1 0 19).toInt = (0 : Int32).toInt := f9
  have r_z11 := kw_rng z11
  show kw_AW l 4 kw_E0 KM mX8_readsTown (p_X8_readsTown_0 T σ a) 15 [(0, .ref 0), (1, .int a)] [.int z11] S6
  refine kw_if_ne (pc := 15) (i := 9) (tgt := 20) rfl rfl (fun c16 => ?_) (fun c16 => ?_)
  · replace hF := kf_n c16 hF
    refine kw_aload_n (pc := 20) (i := 12) (k := 0) (n := 0) rfl rfl rfl ?_
    refine kw_iload_n (pc := 21) (i := 13) (k := 1) (n := 1) rfl rfl rfl ?_
    refine kw_callV (pc := 22) (i := 14) (Y := mX8_skip) (a := 0) (As := [.int a]) (st := []) kw_hE rfl rfl lvX8_134 arX8_skip (c_X8_skip_0 l T hT0 hT1 S6 I12 a (by first | omega | decide) (by first | omega | decide)) (by decide) (Nat.le_of_ble_eq_true rfl) rfl (fun v S18 p17 => ?_)
    obtain ⟨⟨I23, F24⟩, rfl, f19, f20, f21, ef22⟩ := p17
    have F25 : kw_FM [12, 13, 1017, 1018, 1019] σ S18 := kw_FM.tr F14 F24 (by decide)
    have w_26 : (S18.1 0 27).toInt = (S6.1 0 27).toInt := congrArg Int32.toInt (kw_FM.at0 (j := 27) F24 (by decide))
    replace hF := kf_le ef22 hF
    have f19 : (S6.1 0 17).toInt ≤ (S18.1 0 17).toInt := f19
    have f20 : (S18.1 0 18).toInt = (S6.1 0 18).toInt := f20
    have f21 : (S18.1 0 19).toInt = (S6.1 0 19).toInt := f21
    show kw_AW l 4 kw_E0 KM mX8_readsTown (p_X8_readsTown_0 T σ a) 25 [(0, .ref 0), (1, .int a)] [] S18
    have L30 : ∀ (n34 : Nat)  (S27 : kw_S), kw_I (bM T) S27 → kw_FM [12, 13, 1017, 1018, 1019] σ S27 → 1 ≤ (S27.1 0 18).toInt → l_X8_readsTown_0_25 a n34 S27 = (f_X8_readsTown_0 σ a) → (61 - (S27.1 0 17).toInt).toNat < n34 → kw_AW l 4 kw_E0 KM mX8_readsTown (p_X8_readsTown_0 T σ a) 25 [(0, .ref 0), (1, .int a)] [] S27 := by
      intro n34
      induction n34 with
      | zero => intro S27 I28 F29 v32 hF m33; exact absurd m33 (Nat.not_lt_zero _)
      | succ n34 ih31 =>
        intro S27 I28 F29 v32 hF m33
        replace hF := kf_st (l_X8_readsTown_0_25_s _ _ _) hF
        refine kw_aload_n (pc := 25) (i := 15) (k := 0) (n := 0) rfl rfl rfl ?_
        refine kw_get (pc := 26) (i := 16) (v := .int (S27.1 0 17)) rfl rfl rfl lkX8_128 (fun _ => rfl) ?_
        have b35 : 0 ≤ (S27.1 0 17).toInt ∧ (S27.1 0 17).toInt ≤ 60 := I28 0 17
        refine kw_aload_n (pc := 29) (i := 17) (k := 0) (n := 0) rfl rfl rfl ?_
        refine kw_get (pc := 30) (i := 18) (v := .ref 5) rfl rfl rfl lkX8_26 (fun _ => rfl) ?_
        refine kw_iload_n (pc := 33) (i := 19) (k := 1) (n := 1) rfl rfl rfl ?_
        refine kw_iald (pc := 34) (i := 20) (n := 4) rfl rfl (by omega) (by omega) (fun z36 e_z36 => ?_)
        replace hF := kf_le e_z36 hF
        have t_z36 := congrArg Int32.toInt e_z36
        have b_z36 : -9 ≤ z36.toInt ∧ z36.toInt ≤ 60 := by rw [e_z36]; exact I28 5 _
        refine kw_icmp_ge (pc := 35) (i := 21) (tgt := 56) rfl rfl (fun c37 => ?_) (fun c37 => ?_)
        · replace hF := kf_nl c37 hF
          refine kw_aload_n (pc := 56) (i := 32) (k := 0) (n := 0) rfl rfl rfl ?_
          refine kw_get (pc := 57) (i := 33) (v := .int (S27.1 0 19)) rfl rfl rfl lkX8_144 (fun _ => rfl) ?_
          have b38 : 0 ≤ (S27.1 0 19).toInt ∧ (S27.1 0 19).toInt ≤ 6 := I28 0 19
          refine kw_if_le (pc := 60) (i := 34) (tgt := 67) rfl rfl (fun c39 => ?_) (fun c39 => ?_)
          · replace hF := kf_nl c39 hF
            refine kw_iconst (pc := 67) (i := 37) (v := 0) rfl rfl ?_
            exact kw_ireturn (pc := 68) (i := 38) (ty := .boolean) rfl rfl rfl ⟨⟨I28, F29⟩, _, rfl, by omega, (show ((0 : Int32).toInt = 0 ∨ 1 ≤ (S27.1 0 18).toInt) from by omega), hF⟩
          · replace hF := kf_p c39 hF
            refine kw_iconst (pc := 63) (i := 35) (v := 1) rfl rfl ?_
            refine kw_goto (pc := 64) (i := 36) (tgt := 68) rfl rfl ?_
            exact kw_ireturn (pc := 68) (i := 38) (ty := .boolean) rfl rfl rfl ⟨⟨I28, F29⟩, _, rfl, by omega, (show ((1 : Int32).toInt = 0 ∨ 1 ≤ (S27.1 0 18).toInt) from by omega), hF⟩
        · replace hF := kf_p c37 hF
          refine kw_aload_n (pc := 38) (i := 22) (k := 0) (n := 0) rfl rfl rfl ?_
          refine kw_iload_n (pc := 39) (i := 23) (k := 1) (n := 1) rfl rfl rfl ?_
          refine kw_callV (pc := 40) (i := 24) (Y := mX8_readsLine) (a := 0) (As := [.int a]) (st := []) kw_hE rfl rfl lvX8_154 arX8_readsLine (c_X8_readsLine_0 l T hT0 hT1 S27 I28 a (by first | omega | decide) (by first | omega | decide)) (by decide) (Nat.le_of_ble_eq_true rfl) rfl (fun v S41 p40 => ?_)
          obtain ⟨⟨I47, F48⟩, z46, rfl, f42, f43, f44, ef45⟩ := p40
          have F49 : kw_FM [12, 13, 1017, 1018, 1019] σ S41 := kw_FM.tr F29 F48 (by decide)
          have w_50 : (S41.1 0 27).toInt = (S27.1 0 27).toInt := congrArg Int32.toInt (kw_FM.at0 (j := 27) F48 (by decide))
          replace hF := kf_be ef45 hF
          have f43 : (z46.toInt = 0 ∨ (S27.1 0 17).toInt < (S41.1 0 17).toInt) := f43
          have f44 : (S41.1 0 18).toInt = (S27.1 0 18).toInt := f44
          have r_z46 := kw_rng z46
          show kw_AW l 4 kw_E0 KM mX8_readsTown (p_X8_readsTown_0 T σ a) 43 [(0, .ref 0), (1, .int a)] [.int z46] S41
          refine kw_if_ne (pc := 43) (i := 25) (tgt := 48) rfl rfl (fun c51 => ?_) (fun c51 => ?_)
          · replace hF := kf_n c51 hF
            refine kw_aload_n (pc := 48) (i := 28) (k := 0) (n := 0) rfl rfl rfl ?_
            refine kw_iload_n (pc := 49) (i := 29) (k := 1) (n := 1) rfl rfl rfl ?_
            refine kw_callV (pc := 50) (i := 30) (Y := mX8_skip) (a := 0) (As := [.int a]) (st := []) kw_hE rfl rfl lvX8_134 arX8_skip (c_X8_skip_0 l T hT0 hT1 S41 I47 a (by first | omega | decide) (by first | omega | decide)) (by decide) (Nat.le_of_ble_eq_true rfl) rfl (fun v S53 p52 => ?_)
            obtain ⟨⟨I58, F59⟩, rfl, f54, f55, f56, ef57⟩ := p52
            have F60 : kw_FM [12, 13, 1017, 1018, 1019] σ S53 := kw_FM.tr F49 F59 (by decide)
            have w_61 : (S53.1 0 27).toInt = (S41.1 0 27).toInt := congrArg Int32.toInt (kw_FM.at0 (j := 27) F59 (by decide))
            replace hF := kf_le ef57 hF
            have f54 : (S41.1 0 17).toInt ≤ (S53.1 0 17).toInt := f54
            have f55 : (S53.1 0 18).toInt = (S41.1 0 18).toInt := f55
            have f56 : (S53.1 0 19).toInt = (S41.1 0 19).toInt := f56
            show kw_AW l 4 kw_E0 KM mX8_readsTown (p_X8_readsTown_0 T σ a) 53 [(0, .ref 0), (1, .int a)] [] S53
            refine kw_goto (pc := 53) (i := 31) (tgt := 25) rfl rfl ?_
            refine kw_sub (lv' := [(0, .ref 0), (1, .int a)]) [0, 1] rfl ?_
            exact ih31 S53 I58 F60 (show 1 ≤ (S53.1 0 18).toInt from by omega) hF (show (61 - (S53.1 0 17).toInt).toNat < n34 from by omega)
          · replace hF := kf_p c51 hF
            refine kw_iconst (pc := 46) (i := 26) (v := 0) rfl rfl ?_
            exact kw_ireturn (pc := 47) (i := 27) (ty := .boolean) rfl rfl rfl ⟨⟨I47, F49⟩, _, rfl, by omega, (show ((0 : Int32).toInt = 0 ∨ 1 ≤ (S41.1 0 18).toInt) from by omega), hF⟩
    exact L30 _ S18 I23 F25 (show 1 ≤ (S18.1 0 18).toInt from by omega) hF (Nat.lt_succ_self _)
  · replace hF := kf_p c16 hF
    refine kw_iconst (pc := 18) (i := 10) (v := 0) rfl rfl ?_
    exact kw_ireturn (pc := 19) (i := 11) (ty := .boolean) rfl rfl rfl ⟨⟨I12, F14⟩, _, rfl, by omega, (show ((0 : Int32).toInt = 0 ∨ 1 ≤ (S6.1 0 18).toInt) from by omega), hF⟩
noncomputable def f_X8_goesOn_0 (σ : kw_S) (a : Int32) : Int32 × kw_S := kf_b (f_X8_readsTown_0 σ a) fun z1 S2 => if z1.toInt = 0 then (((S2.1 0 17), S2)) else ((((-9) : Int32), S2))
theorem f_X8_goesOn_0_u (σ : kw_S) (a : Int32) : f_X8_goesOn_0 σ a = kf_b (f_X8_readsTown_0 σ a) fun z1 S2 => if z1.toInt = 0 then (((S2.1 0 17), S2)) else ((((-9) : Int32), S2)) := rfl
abbrev p_X8_goesOn_0 (T : Int) (σ : kw_S) (a : Int32) : Option Value → kw_S → Prop := fun vv σ' => (kw_I (bM T) σ' ∧ kw_FM [12, 13, 1017, 1018, 1019] σ σ') ∧ ∃ r : Int32, vv = some (.int r) ∧ (r.toInt ≠ -9 ∨ 1 ≤ (σ'.1 0 18).toInt) ∧ (r, σ') = f_X8_goesOn_0 σ a
set_option maxRecDepth 100000 in
set_option maxHeartbeats 4000000 in
theorem c_X8_goesOn_0 (l : Launch) (T : Int) (hT0 : 0 ≤ T) (hT1 : T ≤ 3000) (σ : kw_S) (hI : kw_I (bM T) σ) (a : Int32) (hp0 : 0 ≤ a.toInt) (hp1 : a.toInt ≤ 3) : kw_Met l 5 KM mX8_goesOn [.ref 0, .int a] σ (p_X8_goesOn_0 T σ a) := by
  have r_a := kw_rng a
  have hF0 : kw_FM [12, 13, 1017, 1018, 1019] σ σ := kw_FM.rf
  have hF := (f_X8_goesOn_0_u σ a).symm
  have q_m9 : (-9 : Int32).toInt = -9 := rfl
  refine kw_Met.of (by decide) rfl tX8_goesOn (Nat.le_of_ble_eq_true rfl) ?_
  show kw_AW l 5 kw_E0 KM mX8_goesOn (p_X8_goesOn_0 T σ a) 0 [(0, .ref 0), (1, .int a)] [] σ
  refine kw_aload_n (pc := 0) (i := 0) (k := 0) (n := 0) rfl rfl rfl ?_
  refine kw_iload_n (pc := 1) (i := 1) (k := 1) (n := 1) rfl rfl rfl ?_
  refine kw_callV (pc := 2) (i := 2) (Y := mX8_readsTown) (a := 0) (As := [.int a]) (st := []) kw_hE rfl rfl lvX8_157 arX8_readsTown (c_X8_readsTown_0 l T hT0 hT1 σ hI a (by first | omega | decide) (by first | omega | decide)) (by decide) (Nat.le_of_ble_eq_true rfl) rfl (fun v S2 p1 => ?_)
  obtain ⟨⟨I7, F8⟩, z6, rfl, f3, f4, ef5⟩ := p1
  have F9 : kw_FM [12, 13, 1017, 1018, 1019] σ S2 := kw_FM.tr hF0 F8 (by decide)
  have w_10 : (S2.1 0 27).toInt = (σ.1 0 27).toInt := congrArg Int32.toInt (kw_FM.at0 (j := 27) F8 (by decide))
  replace hF := kf_be ef5 hF
  have f4 : (z6.toInt = 0 ∨ 1 ≤ (S2.1 0 18).toInt) := f4
  have r_z6 := kw_rng z6
  show kw_AW l 5 kw_E0 KM mX8_goesOn (p_X8_goesOn_0 T σ a) 5 [(0, .ref 0), (1, .int a)] [.int z6] S2
  refine kw_if_eq (pc := 5) (i := 3) (tgt := 13) rfl rfl (fun c11 => ?_) (fun c11 => ?_)
  · replace hF := kf_p c11 hF
    refine kw_aload_n (pc := 13) (i := 6) (k := 0) (n := 0) rfl rfl rfl ?_
    refine kw_get (pc := 14) (i := 7) (v := .int (S2.1 0 17)) rfl rfl rfl lkX8_128 (fun _ => rfl) ?_
    have b12 : 0 ≤ (S2.1 0 17).toInt ∧ (S2.1 0 17).toInt ≤ 60 := I7 0 17
    exact kw_ireturn (pc := 17) (i := 8) (ty := .int) rfl rfl rfl ⟨⟨I7, F9⟩, _, rfl, (show ((S2.1 0 17).toInt ≠ -9 ∨ 1 ≤ (S2.1 0 18).toInt) from by omega), hF⟩
  · replace hF := kf_n c11 hF
    refine kw_bipush (pc := 8) (i := 4) (v := (-9)) rfl rfl ?_
    refine kw_goto (pc := 10) (i := 5) (tgt := 17) rfl rfl ?_
    exact kw_ireturn (pc := 17) (i := 8) (ty := .int) rfl rfl rfl ⟨⟨I7, F9⟩, _, rfl, (show (((-9) : Int32).toInt ≠ -9 ∨ 1 ≤ (S2.1 0 18).toInt) from by omega), hF⟩
noncomputable def f_X8_fault_0 (σ : kw_S) (a : Int32) : Int32 × kw_S := kf_b (f_X8_askedText_0 σ a) fun z1 S2 => if z1.toInt < 0 then ((z1, S2)) else (kf_b (f_X8_goesOn_0 S2 a) fun z3 S4 => (z3, S4))
theorem f_X8_fault_0_u (σ : kw_S) (a : Int32) : f_X8_fault_0 σ a = kf_b (f_X8_askedText_0 σ a) fun z1 S2 => if z1.toInt < 0 then ((z1, S2)) else (kf_b (f_X8_goesOn_0 S2 a) fun z3 S4 => (z3, S4)) := rfl
abbrev p_X8_fault_0 (T : Int) (σ : kw_S) (a : Int32) : Option Value → kw_S → Prop := fun vv σ' => (kw_I (bM T) σ' ∧ kw_FM [1, 12, 13, 1000, 1017, 1018, 1019] σ σ') ∧ ∃ r : Int32, vv = some (.int r) ∧ (r, σ') = f_X8_fault_0 σ a
set_option maxRecDepth 100000 in
set_option maxHeartbeats 4000000 in
theorem c_X8_fault_0 (l : Launch) (T : Int) (hT0 : 0 ≤ T) (hT1 : T ≤ 3000) (σ : kw_S) (hI : kw_I (bM T) σ) (a : Int32) : kw_Met l 6 KM mX8_fault [.ref 0, .int a] σ (p_X8_fault_0 T σ a) := by
  have r_a := kw_rng a
  have hF0 : kw_FM [1, 12, 13, 1000, 1017, 1018, 1019] σ σ := kw_FM.rf
  have hF := (f_X8_fault_0_u σ a).symm
  refine kw_Met.of (by decide) rfl tX8_fault (Nat.le_of_ble_eq_true rfl) ?_
  show kw_AW l 6 kw_E0 KM mX8_fault (p_X8_fault_0 T σ a) 0 [(0, .ref 0), (1, .int a)] [] σ
  refine kw_aload_n (pc := 0) (i := 0) (k := 0) (n := 0) rfl rfl rfl ?_
  refine kw_iload_n (pc := 1) (i := 1) (k := 1) (n := 1) rfl rfl rfl ?_
  refine kw_callV (pc := 2) (i := 2) (Y := mX8_askedText) (a := 0) (As := [.int a]) (st := []) kw_hE rfl rfl lvX8_125 arX8_askedText (c_X8_askedText_0 l T hT0 hT1 σ hI a ) (by decide) (Nat.le_of_ble_eq_true rfl) rfl (fun v S2 p1 => ?_)
  obtain ⟨⟨I6, F7⟩, z5, rfl, f3, ef4⟩ := p1
  have F8 : kw_FM [1, 12, 13, 1000, 1017, 1018, 1019] σ S2 := kw_FM.tr hF0 F7 (by decide)
  have w_9 : (S2.1 0 27).toInt = (σ.1 0 27).toInt := congrArg Int32.toInt (kw_FM.at0 (j := 27) F7 (by decide))
  replace hF := kf_be ef4 hF
  have r_z5 := kw_rng z5
  show kw_AW l 6 kw_E0 KM mX8_fault (p_X8_fault_0 T σ a) 5 [(0, .ref 0), (1, .int a)] [.int z5] S2
  refine kw_istore_n (pc := 5) (i := 3) (n := 2) (lv' := [(2, .int z5), (0, .ref 0), (1, .int a)]) rfl rfl (by decide) rfl ?_
  refine kw_iload_n (pc := 6) (i := 4) (k := 0) (n := 2) rfl rfl rfl ?_
  refine kw_if_ge (pc := 7) (i := 5) (tgt := 14) rfl rfl (fun c10 => ?_) (fun c10 => ?_)
  · replace hF := kf_nl c10 hF
    refine kw_aload_n (pc := 14) (i := 8) (k := 1) (n := 0) rfl rfl rfl ?_
    refine kw_iload_n (pc := 15) (i := 9) (k := 2) (n := 1) rfl rfl rfl ?_
    refine kw_callV (pc := 16) (i := 10) (Y := mX8_goesOn) (a := 0) (As := [.int a]) (st := []) kw_hE rfl rfl lvX8_160 arX8_goesOn (c_X8_goesOn_0 l T hT0 hT1 S2 I6 a (by first | omega | decide) (by first | omega | decide)) (by decide) (Nat.le_of_ble_eq_true rfl) rfl (fun v S12 p11 => ?_)
    obtain ⟨⟨I16, F17⟩, z15, rfl, f13, ef14⟩ := p11
    have F18 : kw_FM [1, 12, 13, 1000, 1017, 1018, 1019] σ S12 := kw_FM.tr F8 F17 (by decide)
    have w_19 : (S12.1 0 27).toInt = (S2.1 0 27).toInt := congrArg Int32.toInt (kw_FM.at0 (j := 27) F17 (by decide))
    replace hF := kf_be ef14 hF
    have f13 : (z15.toInt ≠ -9 ∨ 1 ≤ (S12.1 0 18).toInt) := f13
    have r_z15 := kw_rng z15
    show kw_AW l 6 kw_E0 KM mX8_fault (p_X8_fault_0 T σ a) 19 [(2, .int z5), (0, .ref 0), (1, .int a)] [.int z15] S12
    exact kw_ireturn (pc := 19) (i := 11) (ty := .int) rfl rfl rfl ⟨⟨I16, F18⟩, _, rfl, hF⟩
  · replace hF := kf_p c10 hF
    refine kw_iload_n (pc := 10) (i := 6) (k := 0) (n := 2) rfl rfl rfl ?_
    refine kw_goto (pc := 11) (i := 7) (tgt := 19) rfl rfl ?_
    exact kw_ireturn (pc := 19) (i := 11) (ty := .int) rfl rfl rfl ⟨⟨I6, F8⟩, _, rfl, hF⟩
noncomputable def l_X8_town_0_183 (a1 : Int32) (a2 : Int32) : Nat → Int32 → kw_S → Int32 × kw_S
  | 0, _, S => (0, S)
  | n + 1, x3, S => if x3.toInt < (3 : Int32).toInt then (kf_l (x3 + Int32.ofInt 1) fun z5 => l_X8_town_0_183 a1 a2 n z5 (kw_ui S 16 x3.toNatClampNeg 0)) else (((S.1 0 10), S))
theorem l_X8_town_0_183_s (a1 : Int32) (a2 : Int32) (n : Nat) (x3 : Int32) (S : kw_S) : l_X8_town_0_183 a1 a2 (n + 1) x3 S = if x3.toInt < (3 : Int32).toInt then (kf_l (x3 + Int32.ofInt 1) fun z5 => l_X8_town_0_183 a1 a2 n z5 (kw_ui S 16 x3.toNatClampNeg 0)) else (((S.1 0 10), S)) := rfl
noncomputable def l_X8_town_0_71 (a1 : Int32) (a2 : Int32) : Nat → Int32 → kw_S → Int32 × kw_S
  | 0, _, S => (0, S)
  | n + 1, x3, S => if x3.toInt < (S.1 0 10).toInt then (kf_l ((4 : Int32) * x3) fun z6 => kf_l (S.1 13 z6.toNatClampNeg) fun z7 => kf_l ((4 : Int32) * x3) fun z8 => kf_l (z8 + (1 : Int32)) fun z9 => kf_l ((kw_ui S 8 x3.toNatClampNeg z7).1 13 z9.toNatClampNeg) fun z10 => kf_l (z10 - (4 : Int32)) fun z11 => kf_l ((4 : Int32) * x3) fun z12 => kf_l (z12 + (2 : Int32)) fun z13 => kf_l ((kw_ui (kw_ui S 8 x3.toNatClampNeg z7) 9 x3.toNatClampNeg z11).1 13 z13.toNatClampNeg) fun z14 => kf_l ((4 : Int32) * x3) fun z15 => kf_l (z15 + (3 : Int32)) fun z16 => kf_l ((kw_ui (kw_ui (kw_ui S 8 x3.toNatClampNeg z7) 9 x3.toNatClampNeg z11) 10 x3.toNatClampNeg z14).1 13 z16.toNatClampNeg) fun z17 => kf_l (x3 + Int32.ofInt 1) fun z18 => l_X8_town_0_71 a1 a2 n z18 (kw_ui (kw_ui (kw_ui (kw_ui (kw_ui S 8 x3.toNatClampNeg z7) 9 x3.toNatClampNeg z11) 10 x3.toNatClampNeg z14) 11 x3.toNatClampNeg z17) 14 x3.toNatClampNeg 0)) else (l_X8_town_0_183 a1 a2 ((4 - (0 : Int32).toInt).toNat + 1) (0 : Int32) (kw_ui (kw_ui (kw_ui (kw_ui (kw_ui S 0 22 0) 0 23 0) 0 24 0) 0 25 0) 0 27 0))
theorem l_X8_town_0_71_s (a1 : Int32) (a2 : Int32) (n : Nat) (x3 : Int32) (S : kw_S) : l_X8_town_0_71 a1 a2 (n + 1) x3 S = if x3.toInt < (S.1 0 10).toInt then (kf_l ((4 : Int32) * x3) fun z6 => kf_l (S.1 13 z6.toNatClampNeg) fun z7 => kf_l ((4 : Int32) * x3) fun z8 => kf_l (z8 + (1 : Int32)) fun z9 => kf_l ((kw_ui S 8 x3.toNatClampNeg z7).1 13 z9.toNatClampNeg) fun z10 => kf_l (z10 - (4 : Int32)) fun z11 => kf_l ((4 : Int32) * x3) fun z12 => kf_l (z12 + (2 : Int32)) fun z13 => kf_l ((kw_ui (kw_ui S 8 x3.toNatClampNeg z7) 9 x3.toNatClampNeg z11).1 13 z13.toNatClampNeg) fun z14 => kf_l ((4 : Int32) * x3) fun z15 => kf_l (z15 + (3 : Int32)) fun z16 => kf_l ((kw_ui (kw_ui (kw_ui S 8 x3.toNatClampNeg z7) 9 x3.toNatClampNeg z11) 10 x3.toNatClampNeg z14).1 13 z16.toNatClampNeg) fun z17 => kf_l (x3 + Int32.ofInt 1) fun z18 => l_X8_town_0_71 a1 a2 n z18 (kw_ui (kw_ui (kw_ui (kw_ui (kw_ui S 8 x3.toNatClampNeg z7) 9 x3.toNatClampNeg z11) 10 x3.toNatClampNeg z14) 11 x3.toNatClampNeg z17) 14 x3.toNatClampNeg 0)) else (l_X8_town_0_183 a1 a2 ((4 - (0 : Int32).toInt).toNat + 1) (0 : Int32) (kw_ui (kw_ui (kw_ui (kw_ui (kw_ui S 0 22 0) 0 23 0) 0 24 0) 0 25 0) 0 27 0)) := rfl
noncomputable def l_X8_town_0_43 (a1 : Int32) (a2 : Int32) : Nat → Int32 → kw_S → Int32 × kw_S
  | 0, _, S => (0, S)
  | n + 1, x3, S => if x3.toInt < (S.1 0 11).toInt then (kf_l (S.1 12 x3.toNatClampNeg) fun z19 => kf_l (x3 + Int32.ofInt 1) fun z20 => l_X8_town_0_43 a1 a2 n z20 (kw_ui S 7 x3.toNatClampNeg z19)) else (l_X8_town_0_71 a1 a2 ((7 - (0 : Int32).toInt).toNat + 1) (0 : Int32) S)
theorem l_X8_town_0_43_s (a1 : Int32) (a2 : Int32) (n : Nat) (x3 : Int32) (S : kw_S) : l_X8_town_0_43 a1 a2 (n + 1) x3 S = if x3.toInt < (S.1 0 11).toInt then (kf_l (S.1 12 x3.toNatClampNeg) fun z19 => kf_l (x3 + Int32.ofInt 1) fun z20 => l_X8_town_0_43 a1 a2 n z20 (kw_ui S 7 x3.toNatClampNeg z19)) else (l_X8_town_0_71 a1 a2 ((7 - (0 : Int32).toInt).toNat + 1) (0 : Int32) S) := rfl
noncomputable def f_X8_town_0 (σ : kw_S) (a : Int32) : Int32 × kw_S := kf_b (f_X8_askedText_0 σ a) fun z1 S2 => if z1.toInt < 0 then ((z1, S2)) else (kf_b (f_X8_goesOn_0 S2 a) fun z3 S4 => if z3.toInt = ((-9) : Int32).toInt then (l_X8_town_0_43 a z1 ((9 - (0 : Int32).toInt).toNat + 1) (0 : Int32) (kw_ui (kw_ui S4 0 10 (S4.1 0 19)) 0 11 (S4.1 0 18))) else ((((-4) : Int32), S4)))
theorem f_X8_town_0_u (σ : kw_S) (a : Int32) : f_X8_town_0 σ a = kf_b (f_X8_askedText_0 σ a) fun z1 S2 => if z1.toInt < 0 then ((z1, S2)) else (kf_b (f_X8_goesOn_0 S2 a) fun z3 S4 => if z3.toInt = ((-9) : Int32).toInt then (l_X8_town_0_43 a z1 ((9 - (0 : Int32).toInt).toNat + 1) (0 : Int32) (kw_ui (kw_ui S4 0 10 (S4.1 0 19)) 0 11 (S4.1 0 18))) else ((((-4) : Int32), S4))) := rfl
abbrev p_X8_town_0 (T : Int) (σ : kw_S) (a : Int32) : Option Value → kw_S → Prop := fun vv σ' => (kw_I (bM T) σ' ∧ kw_FM [1, 7, 8, 9, 10, 11, 12, 13, 14, 16, 1000, 1010, 1011, 1017, 1018, 1019, 1022, 1023, 1024, 1025, 1027] σ σ') ∧ ∃ r : Int32, vv = some (.int r) ∧ (r, σ') = f_X8_town_0 σ a
set_option maxRecDepth 100000 in
set_option maxHeartbeats 4000000 in
theorem c_X8_town_0 (l : Launch) (T : Int) (hT0 : 0 ≤ T) (hT1 : T ≤ 3000) (σ : kw_S) (hI : kw_I (bM T) σ) (a : Int32) : kw_Met l 6 KM mX8_town [.ref 0, .int a] σ (p_X8_town_0 T σ a) := by
  have r_a := kw_rng a
  have hF0 : kw_FM [1, 7, 8, 9, 10, 11, 12, 13, 14, 16, 1000, 1010, 1011, 1017, 1018, 1019, 1022, 1023, 1024, 1025, 1027] σ σ := kw_FM.rf
  have hF := (f_X8_town_0_u σ a).symm
  have q_m9 : (-9 : Int32).toInt = -9 := rfl
  have q_m4 : (-4 : Int32).toInt = -4 := rfl
  have q_0 : (0 : Int32).toInt = 0 := rfl
  have q_1 : (1 : Int32).toInt = 1 := rfl
  have q_2 : (2 : Int32).toInt = 2 := rfl
  have q_3 : (3 : Int32).toInt = 3 := rfl
  have q_4 : (4 : Int32).toInt = 4 := rfl
  refine kw_Met.of (by decide) rfl tX8_town (Nat.le_of_ble_eq_true rfl) ?_
  show kw_AW l 6 kw_E0 KM mX8_town (p_X8_town_0 T σ a) 0 [(0, .ref 0), (1, .int a)] [] σ
  refine kw_aload_n (pc := 0) (i := 0) (k := 0) (n := 0) rfl rfl rfl ?_
  refine kw_iload_n (pc := 1) (i := 1) (k := 1) (n := 1) rfl rfl rfl ?_
  refine kw_callV (pc := 2) (i := 2) (Y := mX8_askedText) (a := 0) (As := [.int a]) (st := []) kw_hE rfl rfl lvX8_125 arX8_askedText (c_X8_askedText_0 l T hT0 hT1 σ hI a ) (by decide) (Nat.le_of_ble_eq_true rfl) rfl (fun v S2 p1 => ?_)
  obtain ⟨⟨I6, F7⟩, z5, rfl, f3, ef4⟩ := p1
  have F8 : kw_FM [1, 7, 8, 9, 10, 11, 12, 13, 14, 16, 1000, 1010, 1011, 1017, 1018, 1019, 1022, 1023, 1024, 1025, 1027] σ S2 := kw_FM.tr hF0 F7 (by decide)
  have w_9 : (S2.1 0 27).toInt = (σ.1 0 27).toInt := congrArg Int32.toInt (kw_FM.at0 (j := 27) F7 (by decide))
  replace hF := kf_be ef4 hF
  have r_z5 := kw_rng z5
  show kw_AW l 6 kw_E0 KM mX8_town (p_X8_town_0 T σ a) 5 [(0, .ref 0), (1, .int a)] [.int z5] S2
  refine kw_istore_n (pc := 5) (i := 3) (n := 2) (lv' := [(2, .int z5), (0, .ref 0), (1, .int a)]) rfl rfl (by decide) rfl ?_
  refine kw_iload_n (pc := 6) (i := 4) (k := 0) (n := 2) rfl rfl rfl ?_
  refine kw_if_ge (pc := 7) (i := 5) (tgt := 12) rfl rfl (fun c10 => ?_) (fun c10 => ?_)
  · replace hF := kf_nl c10 hF
    refine kw_aload_n (pc := 12) (i := 8) (k := 1) (n := 0) rfl rfl rfl ?_
    refine kw_iload_n (pc := 13) (i := 9) (k := 2) (n := 1) rfl rfl rfl ?_
    refine kw_callV (pc := 14) (i := 10) (Y := mX8_goesOn) (a := 0) (As := [.int a]) (st := []) kw_hE rfl rfl lvX8_160 arX8_goesOn (c_X8_goesOn_0 l T hT0 hT1 S2 I6 a (by first | omega | decide) (by first | omega | decide)) (by decide) (Nat.le_of_ble_eq_true rfl) rfl (fun v S12 p11 => ?_)
    obtain ⟨⟨I16, F17⟩, z15, rfl, f13, ef14⟩ := p11
    have F18 : kw_FM [1, 7, 8, 9, 10, 11, 12, 13, 14, 16, 1000, 1010, 1011, 1017, 1018, 1019, 1022, 1023, 1024, 1025, 1027] σ S12 := kw_FM.tr F8 F17 (by decide)
    have w_19 : (S12.1 0 27).toInt = (S2.1 0 27).toInt := congrArg Int32.toInt (kw_FM.at0 (j := 27) F17 (by decide))
    replace hF := kf_be ef14 hF
    have f13 : (z15.toInt ≠ -9 ∨ 1 ≤ (S12.1 0 18).toInt) := f13
    have r_z15 := kw_rng z15
    show kw_AW l 6 kw_E0 KM mX8_town (p_X8_town_0 T σ a) 17 [(2, .int z5), (0, .ref 0), (1, .int a)] [.int z15] S12
    refine kw_bipush (pc := 17) (i := 11) (v := (-9)) rfl rfl ?_
    refine kw_icmp_eq (pc := 19) (i := 12) (tgt := 25) rfl rfl (fun c20 => ?_) (fun c20 => ?_)
    · replace hF := kf_p c20 hF
      refine kw_aload_n (pc := 25) (i := 15) (k := 1) (n := 0) rfl rfl rfl ?_
      refine kw_aload_n (pc := 26) (i := 16) (k := 1) (n := 0) rfl rfl rfl ?_
      refine kw_get (pc := 27) (i := 17) (v := .int (S12.1 0 19)) rfl rfl rfl lkX8_144 (fun _ => rfl) ?_
      have b21 : 0 ≤ (S12.1 0 19).toInt ∧ (S12.1 0 19).toInt ≤ 6 := I16 0 19
      refine kw_puti (pc := 30) (i := 18) (z := 0) rfl rfl rfl lpX8_163 rfl rfl ?_
      have I22 : kw_I (bM T) (kw_ui S12 0 10 (S12.1 0 19)) := kw_I_ui I16 (show 0 ≤ (S12.1 0 19).toInt by omega) (show (S12.1 0 19).toInt ≤ 6 by omega)
      have F23 : kw_FM [1, 7, 8, 9, 10, 11, 12, 13, 14, 16, 1000, 1010, 1011, 1017, 1018, 1019, 1022, 1023, 1024, 1025, 1027] σ (kw_ui S12 0 10 (S12.1 0 19)) := kw_FM_ui0 F18 (by decide)
      refine kw_aload_n (pc := 33) (i := 19) (k := 1) (n := 0) rfl rfl rfl ?_
      refine kw_aload_n (pc := 34) (i := 20) (k := 1) (n := 0) rfl rfl rfl ?_
      refine kw_get (pc := 35) (i := 21) (v := .int (S12.1 0 18)) rfl rfl rfl lkX8_138 (fun _ => rfl) ?_
      have b24 : 0 ≤ (S12.1 0 18).toInt ∧ (S12.1 0 18).toInt ≤ 8 := I16 0 18
      refine kw_puti (pc := 38) (i := 22) (z := 0) rfl rfl rfl lpX8_32 rfl rfl ?_
      have I25 : kw_I (bM T) (kw_ui (kw_ui S12 0 10 (S12.1 0 19)) 0 11 (S12.1 0 18)) := kw_I_ui I22 (show 1 ≤ (S12.1 0 18).toInt by omega) (show (S12.1 0 18).toInt ≤ 8 by omega)
      have F26 : kw_FM [1, 7, 8, 9, 10, 11, 12, 13, 14, 16, 1000, 1010, 1011, 1017, 1018, 1019, 1022, 1023, 1024, 1025, 1027] σ (kw_ui (kw_ui S12 0 10 (S12.1 0 19)) 0 11 (S12.1 0 18)) := kw_FM_ui0 F23 (by decide)
      refine kw_iconst (pc := 41) (i := 23) (v := 0) rfl rfl ?_
      refine kw_istore_n (pc := 42) (i := 24) (n := 3) (lv' := [(3, .int 0), (2, .int z5), (0, .ref 0), (1, .int a)]) rfl rfl (by decide) rfl ?_
      have L31 : ∀ (n35 : Nat) (x27 : Int32) (S28 : kw_S), kw_I (bM T) S28 → kw_FM [1, 7, 8, 9, 10, 11, 12, 13, 14, 16, 1000, 1010, 1011, 1017, 1018, 1019, 1022, 1023, 1024, 1025, 1027] σ S28 → 0 ≤ x27.toInt → l_X8_town_0_43 a z5 n35 x27 S28 = (f_X8_town_0 σ a) → (9 - x27.toInt).toNat < n35 → kw_AW l 6 kw_E0 KM mX8_town (p_X8_town_0 T σ a) 43 [(3, .int x27), (2, .int z5), (0, .ref 0), (1, .int a)] [] S28 := by
        intro n35
        induction n35 with
        | zero => intro x27 S28 I29 F30 v33 hF m34; exact absurd m34 (Nat.not_lt_zero _)
        | succ n35 ih32 =>
          intro x27 S28 I29 F30 v33 hF m34
          replace hF := kf_st (l_X8_town_0_43_s _ _ _ _ _) hF
          have r_x27 := kw_rng x27
          refine kw_iload_n (pc := 43) (i := 25) (k := 0) (n := 3) rfl rfl rfl ?_
          refine kw_aload_n (pc := 44) (i := 26) (k := 2) (n := 0) rfl rfl rfl ?_
          refine kw_get (pc := 45) (i := 27) (v := .int (S28.1 0 11)) rfl rfl rfl lkX8_32 (fun _ => rfl) ?_
          have b36 : 1 ≤ (S28.1 0 11).toInt ∧ (S28.1 0 11).toInt ≤ 8 := I29 0 11
          refine kw_icmp_ge (pc := 48) (i := 28) (tgt := 69) rfl rfl (fun c37 => ?_) (fun c37 => ?_)
          · replace hF := kf_nl c37 hF
            refine kw_iconst (pc := 69) (i := 39) (v := 0) rfl rfl ?_
            refine kw_istore_n (pc := 70) (i := 40) (n := 3) (lv' := [(3, .int 0), (2, .int z5), (0, .ref 0), (1, .int a)]) rfl rfl (by decide) rfl ?_
            have L42 : ∀ (n46 : Nat) (x38 : Int32) (S39 : kw_S), kw_I (bM T) S39 → kw_FM [1, 7, 8, 9, 10, 11, 12, 13, 14, 16, 1000, 1010, 1011, 1017, 1018, 1019, 1022, 1023, 1024, 1025, 1027] σ S39 → 0 ≤ x38.toInt → l_X8_town_0_71 a z5 n46 x38 S39 = (f_X8_town_0 σ a) → (7 - x38.toInt).toNat < n46 → kw_AW l 6 kw_E0 KM mX8_town (p_X8_town_0 T σ a) 71 [(3, .int x38), (2, .int z5), (0, .ref 0), (1, .int a)] [] S39 := by
              intro n46
              induction n46 with
              | zero => intro x38 S39 I40 F41 v44 hF m45; exact absurd m45 (Nat.not_lt_zero _)
              | succ n46 ih43 =>
                intro x38 S39 I40 F41 v44 hF m45
                replace hF := kf_st (l_X8_town_0_71_s _ _ _ _ _) hF
                have r_x38 := kw_rng x38
                refine kw_iload_n (pc := 71) (i := 41) (k := 0) (n := 3) rfl rfl rfl ?_
                refine kw_aload_n (pc := 72) (i := 42) (k := 2) (n := 0) rfl rfl rfl ?_
                refine kw_get (pc := 73) (i := 43) (v := .int (S39.1 0 10)) rfl rfl rfl lkX8_163 (fun _ => rfl) ?_
                have b47 : 0 ≤ (S39.1 0 10).toInt ∧ (S39.1 0 10).toInt ≤ 6 := I40 0 10
                refine kw_icmp_ge (pc := 76) (i := 44) (tgt := 156) rfl rfl (fun c48 => ?_) (fun c48 => ?_)
                · replace hF := kf_nl c48 hF
                  refine kw_aload_n (pc := 156) (i := 100) (k := 2) (n := 0) rfl rfl rfl ?_
                  refine kw_iconst (pc := 157) (i := 101) (v := 0) rfl rfl ?_
                  refine kw_puti (pc := 158) (i := 102) (z := 0) rfl rfl rfl lpX8_166 rfl rfl ?_
                  have I49 : kw_I (bM T) (kw_ui S39 0 22 0) := kw_I_ui I40 (show 0 ≤ (0 : Int32).toInt by omega) (show (0 : Int32).toInt ≤ T by omega)
                  have F50 : kw_FM [1, 7, 8, 9, 10, 11, 12, 13, 14, 16, 1000, 1010, 1011, 1017, 1018, 1019, 1022, 1023, 1024, 1025, 1027] σ (kw_ui S39 0 22 0) := kw_FM_ui0 F41 (by decide)
                  refine kw_aload_n (pc := 161) (i := 103) (k := 2) (n := 0) rfl rfl rfl ?_
                  refine kw_iconst (pc := 162) (i := 104) (v := 0) rfl rfl ?_
                  refine kw_puti (pc := 163) (i := 105) (z := 0) rfl rfl rfl lpX8_169 rfl rfl ?_
                  have I51 : kw_I (bM T) (kw_ui (kw_ui S39 0 22 0) 0 23 0) := kw_I_ui I49 (kw_rng (0 : Int32)).1 (Int.le_of_lt_add_one (kw_rng (0 : Int32)).2)
                  have F52 : kw_FM [1, 7, 8, 9, 10, 11, 12, 13, 14, 16, 1000, 1010, 1011, 1017, 1018, 1019, 1022, 1023, 1024, 1025, 1027] σ (kw_ui (kw_ui S39 0 22 0) 0 23 0) := kw_FM_ui0 F50 (by decide)
                  refine kw_aload_n (pc := 166) (i := 106) (k := 2) (n := 0) rfl rfl rfl ?_
                  refine kw_iconst (pc := 167) (i := 107) (v := 0) rfl rfl ?_
                  refine kw_puti (pc := 168) (i := 108) (z := 0) rfl rfl rfl lpX8_172 rfl rfl ?_
                  have I53 : kw_I (bM T) (kw_ui (kw_ui (kw_ui S39 0 22 0) 0 23 0) 0 24 0) := kw_I_ui I51 (kw_rng (0 : Int32)).1 (Int.le_of_lt_add_one (kw_rng (0 : Int32)).2)
                  have F54 : kw_FM [1, 7, 8, 9, 10, 11, 12, 13, 14, 16, 1000, 1010, 1011, 1017, 1018, 1019, 1022, 1023, 1024, 1025, 1027] σ (kw_ui (kw_ui (kw_ui S39 0 22 0) 0 23 0) 0 24 0) := kw_FM_ui0 F52 (by decide)
                  refine kw_aload_n (pc := 171) (i := 109) (k := 2) (n := 0) rfl rfl rfl ?_
                  refine kw_iconst (pc := 172) (i := 110) (v := 0) rfl rfl ?_
                  refine kw_puti (pc := 173) (i := 111) (z := 0) rfl rfl rfl lpX8_175 rfl rfl ?_
                  have I55 : kw_I (bM T) (kw_ui (kw_ui (kw_ui (kw_ui S39 0 22 0) 0 23 0) 0 24 0) 0 25 0) := kw_I_ui I53 (show 0 ≤ (0 : Int32).toInt by omega) (show (0 : Int32).toInt ≤ 63 by omega)
                  have F56 : kw_FM [1, 7, 8, 9, 10, 11, 12, 13, 14, 16, 1000, 1010, 1011, 1017, 1018, 1019, 1022, 1023, 1024, 1025, 1027] σ (kw_ui (kw_ui (kw_ui (kw_ui S39 0 22 0) 0 23 0) 0 24 0) 0 25 0) := kw_FM_ui0 F54 (by decide)
                  refine kw_aload_n (pc := 176) (i := 112) (k := 2) (n := 0) rfl rfl rfl ?_
                  refine kw_iconst (pc := 177) (i := 113) (v := 0) rfl rfl ?_
                  refine kw_puti (pc := 178) (i := 114) (z := 0) rfl rfl rfl lpX8_178 rfl rfl ?_
                  have I57 : kw_I (bM T) (kw_ui (kw_ui (kw_ui (kw_ui (kw_ui S39 0 22 0) 0 23 0) 0 24 0) 0 25 0) 0 27 0) := kw_I_ui I55 (show 0 ≤ (0 : Int32).toInt by omega) (show (0 : Int32).toInt ≤ 40 by omega)
                  have F58 : kw_FM [1, 7, 8, 9, 10, 11, 12, 13, 14, 16, 1000, 1010, 1011, 1017, 1018, 1019, 1022, 1023, 1024, 1025, 1027] σ (kw_ui (kw_ui (kw_ui (kw_ui (kw_ui S39 0 22 0) 0 23 0) 0 24 0) 0 25 0) 0 27 0) := kw_FM_ui0 F56 (by decide)
                  refine kw_iconst (pc := 181) (i := 115) (v := 0) rfl rfl ?_
                  refine kw_istore_n (pc := 182) (i := 116) (n := 3) (lv' := [(3, .int 0), (2, .int z5), (0, .ref 0), (1, .int a)]) rfl rfl (by decide) rfl ?_
                  have L63 : ∀ (n67 : Nat) (x59 : Int32) (S60 : kw_S), kw_I (bM T) S60 → kw_FM [1, 7, 8, 9, 10, 11, 12, 13, 14, 16, 1000, 1010, 1011, 1017, 1018, 1019, 1022, 1023, 1024, 1025, 1027] σ S60 → 0 ≤ x59.toInt → l_X8_town_0_183 a z5 n67 x59 S60 = (f_X8_town_0 σ a) → (4 - x59.toInt).toNat < n67 → kw_AW l 6 kw_E0 KM mX8_town (p_X8_town_0 T σ a) 183 [(3, .int x59), (2, .int z5), (0, .ref 0), (1, .int a)] [] S60 := by
                    intro n67
                    induction n67 with
                    | zero => intro x59 S60 I61 F62 v65 hF m66; exact absurd m66 (Nat.not_lt_zero _)
                    | succ n67 ih64 =>
                      intro x59 S60 I61 F62 v65 hF m66
                      replace hF := kf_st (l_X8_town_0_183_s _ _ _ _ _) hF
                      have r_x59 := kw_rng x59
                      refine kw_iload_n (pc := 183) (i := 117) (k := 0) (n := 3) rfl rfl rfl ?_
                      refine kw_iconst (pc := 184) (i := 118) (v := 3) rfl rfl ?_
                      refine kw_icmp_ge (pc := 185) (i := 119) (tgt := 201) rfl rfl (fun c68 => ?_) (fun c68 => ?_)
                      · replace hF := kf_nl c68 hF
                        refine kw_aload_n (pc := 201) (i := 127) (k := 2) (n := 0) rfl rfl rfl ?_
                        refine kw_get (pc := 202) (i := 128) (v := .int (S60.1 0 10)) rfl rfl rfl lkX8_163 (fun _ => rfl) ?_
                        have b69 : 0 ≤ (S60.1 0 10).toInt ∧ (S60.1 0 10).toInt ≤ 6 := I61 0 10
                        exact kw_ireturn (pc := 205) (i := 129) (ty := .int) rfl rfl rfl ⟨⟨I61, F62⟩, _, rfl, hF⟩
                      · replace hF := kf_p c68 hF
                        refine kw_aload_n (pc := 188) (i := 120) (k := 2) (n := 0) rfl rfl rfl ?_
                        refine kw_get (pc := 189) (i := 121) (v := .ref 16) rfl rfl rfl lkX8_63 (fun _ => rfl) ?_
                        refine kw_iload_n (pc := 192) (i := 122) (k := 0) (n := 3) rfl rfl rfl ?_
                        refine kw_iconst (pc := 193) (i := 123) (v := 0) rfl rfl ?_
                        refine kw_iast (pc := 194) (i := 124) (n := 3) rfl rfl (by omega) (by omega) ?_
                        have I70 : kw_I (bM T) (kw_ui S60 16 x59.toNatClampNeg 0) := kw_I_ui I61 (kw_rng (0 : Int32)).1 (Int.le_of_lt_add_one (kw_rng (0 : Int32)).2)
                        have F71 : kw_FM [1, 7, 8, 9, 10, 11, 12, 13, 14, 16, 1000, 1010, 1011, 1017, 1018, 1019, 1022, 1023, 1024, 1025, 1027] σ (kw_ui S60 16 x59.toNatClampNeg 0) := kw_FM_ui F62 (by decide) (by decide)
                        refine kw_iinc' (pc := 195) (i := 125) (k := 0) (fun z => [(3, .int z), (2, .int z5), (0, .ref 0), (1, .int a)]) rfl rfl (by decide) rfl (fun _ => rfl) (fun z72 e_z72 t_z72 => ?_)
                        replace hF := kf_le e_z72 hF
                        first | (have u_z72 : z72.toInt = x59.toInt + 1 := (by omega); clear t_z72) | skip
                        refine kw_goto (pc := 198) (i := 126) (tgt := 183) rfl rfl ?_
                        refine kw_sub (lv' := [(3, .int z72), (2, .int z5), (0, .ref 0), (1, .int a)]) [0, 1, 2, 3] rfl ?_
                        exact ih64 z72 (kw_ui S60 16 x59.toNatClampNeg 0) I70 F71 (by omega) hF (by omega)
                  exact L63 _ 0 (kw_ui (kw_ui (kw_ui (kw_ui (kw_ui S39 0 22 0) 0 23 0) 0 24 0) 0 25 0) 0 27 0) I57 F58 (by omega) hF (Nat.lt_succ_self _)
                · replace hF := kf_p c48 hF
                  refine kw_aload_n (pc := 79) (i := 45) (k := 2) (n := 0) rfl rfl rfl ?_
                  refine kw_get (pc := 80) (i := 46) (v := .ref 8) rfl rfl rfl lkX8_39 (fun _ => rfl) ?_
                  refine kw_iload_n (pc := 83) (i := 47) (k := 0) (n := 3) rfl rfl rfl ?_
                  refine kw_aload_n (pc := 84) (i := 48) (k := 2) (n := 0) rfl rfl rfl ?_
                  refine kw_get (pc := 85) (i := 49) (v := .ref 13) rfl rfl rfl lkX8_54 (fun _ => rfl) ?_
                  refine kw_iconst (pc := 88) (i := 50) (v := 4) rfl rfl ?_
                  refine kw_iload_n (pc := 89) (i := 51) (k := 0) (n := 3) rfl rfl rfl ?_
                  refine kw_imul (pc := 90) (i := 52) rfl (fun z73 e_z73 t_z73 => ?_)
                  replace hF := kf_le e_z73 hF
                  rw [show (4 : Int32).toInt = 4 from rfl] at t_z73
                  first | (have u_z73 : z73.toInt = 4 * x38.toInt := (by omega); clear t_z73) | skip
                  refine kw_iald (pc := 91) (i := 53) (n := 24) rfl rfl (by omega) (by omega) (fun z74 e_z74 => ?_)
                  replace hF := kf_le e_z74 hF
                  have t_z74 := congrArg Int32.toInt e_z74
                  have r_z74 := kw_rng z74
                  refine kw_iast (pc := 92) (i := 54) (n := 6) rfl rfl (by omega) (by omega) ?_
                  have I75 : kw_I (bM T) (kw_ui S39 8 x38.toNatClampNeg z74) := kw_I_ui I40 (kw_rng z74).1 (Int.le_of_lt_add_one (kw_rng z74).2)
                  have F76 : kw_FM [1, 7, 8, 9, 10, 11, 12, 13, 14, 16, 1000, 1010, 1011, 1017, 1018, 1019, 1022, 1023, 1024, 1025, 1027] σ (kw_ui S39 8 x38.toNatClampNeg z74) := kw_FM_ui F41 (by decide) (by decide)
                  refine kw_aload_n (pc := 93) (i := 55) (k := 2) (n := 0) rfl rfl rfl ?_
                  refine kw_get (pc := 94) (i := 56) (v := .ref 9) rfl rfl rfl lkX8_42 (fun _ => rfl) ?_
                  refine kw_iload_n (pc := 97) (i := 57) (k := 0) (n := 3) rfl rfl rfl ?_
                  refine kw_aload_n (pc := 98) (i := 58) (k := 2) (n := 0) rfl rfl rfl ?_
                  refine kw_get (pc := 99) (i := 59) (v := .ref 13) rfl rfl rfl lkX8_54 (fun _ => rfl) ?_
                  refine kw_iconst (pc := 102) (i := 60) (v := 4) rfl rfl ?_
                  refine kw_iload_n (pc := 103) (i := 61) (k := 0) (n := 3) rfl rfl rfl ?_
                  refine kw_imul (pc := 104) (i := 62) rfl (fun z77 e_z77 t_z77 => ?_)
                  replace hF := kf_le e_z77 hF
                  rw [show (4 : Int32).toInt = 4 from rfl] at t_z77
                  first | (have u_z77 : z77.toInt = 4 * x38.toInt := (by omega); clear t_z77) | skip
                  refine kw_iconst (pc := 105) (i := 63) (v := 1) rfl rfl ?_
                  refine kw_iadd (pc := 106) (i := 64) rfl (fun z78 e_z78 t_z78 => ?_)
                  replace hF := kf_le e_z78 hF
                  first | (have u_z78 : z78.toInt = z77.toInt + 1 := (by omega); clear t_z78) | skip
                  refine kw_iald (pc := 107) (i := 65) (n := 24) rfl rfl (by omega) (by omega) (fun z79 e_z79 => ?_)
                  replace hF := kf_le e_z79 hF
                  have t_z79 := congrArg Int32.toInt e_z79
                  have r_z79 := kw_rng z79
                  refine kw_iconst (pc := 108) (i := 66) (v := 4) rfl rfl ?_
                  refine kw_isub (pc := 109) (i := 67) rfl (fun z80 e_z80 t_z80 => ?_)
                  replace hF := kf_le e_z80 hF
                  first | (have u_z80 : z80.toInt = z79.toInt - 4 := (by omega); clear t_z80) | skip
                  refine kw_iast (pc := 110) (i := 68) (n := 6) rfl rfl (by omega) (by omega) ?_
                  have I81 : kw_I (bM T) (kw_ui (kw_ui S39 8 x38.toNatClampNeg z74) 9 x38.toNatClampNeg z80) := kw_I_ui I75 (kw_rng z80).1 (Int.le_of_lt_add_one (kw_rng z80).2)
                  have F82 : kw_FM [1, 7, 8, 9, 10, 11, 12, 13, 14, 16, 1000, 1010, 1011, 1017, 1018, 1019, 1022, 1023, 1024, 1025, 1027] σ (kw_ui (kw_ui S39 8 x38.toNatClampNeg z74) 9 x38.toNatClampNeg z80) := kw_FM_ui F76 (by decide) (by decide)
                  refine kw_aload_n (pc := 111) (i := 69) (k := 2) (n := 0) rfl rfl rfl ?_
                  refine kw_get (pc := 112) (i := 70) (v := .ref 10) rfl rfl rfl lkX8_45 (fun _ => rfl) ?_
                  refine kw_iload_n (pc := 115) (i := 71) (k := 0) (n := 3) rfl rfl rfl ?_
                  refine kw_aload_n (pc := 116) (i := 72) (k := 2) (n := 0) rfl rfl rfl ?_
                  refine kw_get (pc := 117) (i := 73) (v := .ref 13) rfl rfl rfl lkX8_54 (fun _ => rfl) ?_
                  refine kw_iconst (pc := 120) (i := 74) (v := 4) rfl rfl ?_
                  refine kw_iload_n (pc := 121) (i := 75) (k := 0) (n := 3) rfl rfl rfl ?_
                  refine kw_imul (pc := 122) (i := 76) rfl (fun z83 e_z83 t_z83 => ?_)
                  replace hF := kf_le e_z83 hF
                  rw [show (4 : Int32).toInt = 4 from rfl] at t_z83
                  first | (have u_z83 : z83.toInt = 4 * x38.toInt := (by omega); clear t_z83) | skip
                  refine kw_iconst (pc := 123) (i := 77) (v := 2) rfl rfl ?_
                  refine kw_iadd (pc := 124) (i := 78) rfl (fun z84 e_z84 t_z84 => ?_)
                  replace hF := kf_le e_z84 hF
                  first | (have u_z84 : z84.toInt = z83.toInt + 2 := (by omega); clear t_z84) | skip
                  refine kw_iald (pc := 125) (i := 79) (n := 24) rfl rfl (by omega) (by omega) (fun z85 e_z85 => ?_)
                  replace hF := kf_le e_z85 hF
                  have t_z85 := congrArg Int32.toInt e_z85
                  have r_z85 := kw_rng z85
                  refine kw_iast (pc := 126) (i := 80) (n := 6) rfl rfl (by omega) (by omega) ?_
                  have I86 : kw_I (bM T) (kw_ui (kw_ui (kw_ui S39 8 x38.toNatClampNeg z74) 9 x38.toNatClampNeg z80) 10 x38.toNatClampNeg z85) := kw_I_ui I81 (kw_rng z85).1 (Int.le_of_lt_add_one (kw_rng z85).2)
                  have F87 : kw_FM [1, 7, 8, 9, 10, 11, 12, 13, 14, 16, 1000, 1010, 1011, 1017, 1018, 1019, 1022, 1023, 1024, 1025, 1027] σ (kw_ui (kw_ui (kw_ui S39 8 x38.toNatClampNeg z74) 9 x38.toNatClampNeg z80) 10 x38.toNatClampNeg z85) := kw_FM_ui F82 (by decide) (by decide)
                  refine kw_aload_n (pc := 127) (i := 81) (k := 2) (n := 0) rfl rfl rfl ?_
                  refine kw_get (pc := 128) (i := 82) (v := .ref 11) rfl rfl rfl lkX8_48 (fun _ => rfl) ?_
                  refine kw_iload_n (pc := 131) (i := 83) (k := 0) (n := 3) rfl rfl rfl ?_
                  refine kw_aload_n (pc := 132) (i := 84) (k := 2) (n := 0) rfl rfl rfl ?_
                  refine kw_get (pc := 133) (i := 85) (v := .ref 13) rfl rfl rfl lkX8_54 (fun _ => rfl) ?_
                  refine kw_iconst (pc := 136) (i := 86) (v := 4) rfl rfl ?_
                  refine kw_iload_n (pc := 137) (i := 87) (k := 0) (n := 3) rfl rfl rfl ?_
                  refine kw_imul (pc := 138) (i := 88) rfl (fun z88 e_z88 t_z88 => ?_)
                  replace hF := kf_le e_z88 hF
                  rw [show (4 : Int32).toInt = 4 from rfl] at t_z88
                  first | (have u_z88 : z88.toInt = 4 * x38.toInt := (by omega); clear t_z88) | skip
                  refine kw_iconst (pc := 139) (i := 89) (v := 3) rfl rfl ?_
                  refine kw_iadd (pc := 140) (i := 90) rfl (fun z89 e_z89 t_z89 => ?_)
                  replace hF := kf_le e_z89 hF
                  first | (have u_z89 : z89.toInt = z88.toInt + 3 := (by omega); clear t_z89) | skip
                  refine kw_iald (pc := 141) (i := 91) (n := 24) rfl rfl (by omega) (by omega) (fun z90 e_z90 => ?_)
                  replace hF := kf_le e_z90 hF
                  have t_z90 := congrArg Int32.toInt e_z90
                  have r_z90 := kw_rng z90
                  refine kw_iast (pc := 142) (i := 92) (n := 6) rfl rfl (by omega) (by omega) ?_
                  have I91 : kw_I (bM T) (kw_ui (kw_ui (kw_ui (kw_ui S39 8 x38.toNatClampNeg z74) 9 x38.toNatClampNeg z80) 10 x38.toNatClampNeg z85) 11 x38.toNatClampNeg z90) := kw_I_ui I86 (kw_rng z90).1 (Int.le_of_lt_add_one (kw_rng z90).2)
                  have F92 : kw_FM [1, 7, 8, 9, 10, 11, 12, 13, 14, 16, 1000, 1010, 1011, 1017, 1018, 1019, 1022, 1023, 1024, 1025, 1027] σ (kw_ui (kw_ui (kw_ui (kw_ui S39 8 x38.toNatClampNeg z74) 9 x38.toNatClampNeg z80) 10 x38.toNatClampNeg z85) 11 x38.toNatClampNeg z90) := kw_FM_ui F87 (by decide) (by decide)
                  refine kw_aload_n (pc := 143) (i := 93) (k := 2) (n := 0) rfl rfl rfl ?_
                  refine kw_get (pc := 144) (i := 94) (v := .ref 14) rfl rfl rfl lkX8_57 (fun _ => rfl) ?_
                  refine kw_iload_n (pc := 147) (i := 95) (k := 0) (n := 3) rfl rfl rfl ?_
                  refine kw_iconst (pc := 148) (i := 96) (v := 0) rfl rfl ?_
                  refine kw_iast (pc := 149) (i := 97) (n := 6) rfl rfl (by omega) (by omega) ?_
                  have I93 : kw_I (bM T) (kw_ui (kw_ui (kw_ui (kw_ui (kw_ui S39 8 x38.toNatClampNeg z74) 9 x38.toNatClampNeg z80) 10 x38.toNatClampNeg z85) 11 x38.toNatClampNeg z90) 14 x38.toNatClampNeg 0) := kw_I_ui I91 (kw_rng (0 : Int32)).1 (Int.le_of_lt_add_one (kw_rng (0 : Int32)).2)
                  have F94 : kw_FM [1, 7, 8, 9, 10, 11, 12, 13, 14, 16, 1000, 1010, 1011, 1017, 1018, 1019, 1022, 1023, 1024, 1025, 1027] σ (kw_ui (kw_ui (kw_ui (kw_ui (kw_ui S39 8 x38.toNatClampNeg z74) 9 x38.toNatClampNeg z80) 10 x38.toNatClampNeg z85) 11 x38.toNatClampNeg z90) 14 x38.toNatClampNeg 0) := kw_FM_ui F92 (by decide) (by decide)
                  refine kw_iinc' (pc := 150) (i := 98) (k := 0) (fun z => [(3, .int z), (2, .int z5), (0, .ref 0), (1, .int a)]) rfl rfl (by decide) rfl (fun _ => rfl) (fun z95 e_z95 t_z95 => ?_)
                  replace hF := kf_le e_z95 hF
                  first | (have u_z95 : z95.toInt = x38.toInt + 1 := (by omega); clear t_z95) | skip
                  refine kw_goto (pc := 153) (i := 99) (tgt := 71) rfl rfl ?_
                  refine kw_sub (lv' := [(3, .int z95), (2, .int z5), (0, .ref 0), (1, .int a)]) [0, 1, 2, 3] rfl ?_
                  exact ih43 z95 (kw_ui (kw_ui (kw_ui (kw_ui (kw_ui S39 8 x38.toNatClampNeg z74) 9 x38.toNatClampNeg z80) 10 x38.toNatClampNeg z85) 11 x38.toNatClampNeg z90) 14 x38.toNatClampNeg 0) I93 F94 (by omega) hF (by omega)
            exact L42 _ 0 S28 I29 F30 (by omega) hF (Nat.lt_succ_self _)
          · replace hF := kf_p c37 hF
            refine kw_aload_n (pc := 51) (i := 29) (k := 2) (n := 0) rfl rfl rfl ?_
            refine kw_get (pc := 52) (i := 30) (v := .ref 7) rfl rfl rfl lkX8_36 (fun _ => rfl) ?_
            refine kw_iload_n (pc := 55) (i := 31) (k := 0) (n := 3) rfl rfl rfl ?_
            refine kw_aload_n (pc := 56) (i := 32) (k := 2) (n := 0) rfl rfl rfl ?_
            refine kw_get (pc := 57) (i := 33) (v := .ref 12) rfl rfl rfl lkX8_51 (fun _ => rfl) ?_
            refine kw_iload_n (pc := 60) (i := 34) (k := 0) (n := 3) rfl rfl rfl ?_
            refine kw_iald (pc := 61) (i := 35) (n := 8) rfl rfl (by omega) (by omega) (fun z96 e_z96 => ?_)
            replace hF := kf_le e_z96 hF
            have t_z96 := congrArg Int32.toInt e_z96
            have r_z96 := kw_rng z96
            refine kw_iast (pc := 62) (i := 36) (n := 8) rfl rfl (by omega) (by omega) ?_
            have I97 : kw_I (bM T) (kw_ui S28 7 x27.toNatClampNeg z96) := kw_I_ui I29 (kw_rng z96).1 (Int.le_of_lt_add_one (kw_rng z96).2)
            have F98 : kw_FM [1, 7, 8, 9, 10, 11, 12, 13, 14, 16, 1000, 1010, 1011, 1017, 1018, 1019, 1022, 1023, 1024, 1025, 1027] σ (kw_ui S28 7 x27.toNatClampNeg z96) := kw_FM_ui F30 (by decide) (by decide)
            refine kw_iinc' (pc := 63) (i := 37) (k := 0) (fun z => [(3, .int z), (2, .int z5), (0, .ref 0), (1, .int a)]) rfl rfl (by decide) rfl (fun _ => rfl) (fun z99 e_z99 t_z99 => ?_)
            replace hF := kf_le e_z99 hF
            first | (have u_z99 : z99.toInt = x27.toInt + 1 := (by omega); clear t_z99) | skip
            refine kw_goto (pc := 66) (i := 38) (tgt := 43) rfl rfl ?_
            refine kw_sub (lv' := [(3, .int z99), (2, .int z5), (0, .ref 0), (1, .int a)]) [0, 1, 2, 3] rfl ?_
            exact ih32 z99 (kw_ui S28 7 x27.toNatClampNeg z96) I97 F98 (by omega) hF (by omega)
      exact L31 _ 0 (kw_ui (kw_ui S12 0 10 (S12.1 0 19)) 0 11 (S12.1 0 18)) I25 F26 (by omega) hF (Nat.lt_succ_self _)
    · replace hF := kf_n c20 hF
      refine kw_bipush (pc := 22) (i := 13) (v := (-4)) rfl rfl ?_
      exact kw_ireturn (pc := 24) (i := 14) (ty := .int) rfl rfl rfl ⟨⟨I16, F18⟩, _, rfl, hF⟩
  · replace hF := kf_p c10 hF
    refine kw_iload_n (pc := 10) (i := 6) (k := 0) (n := 2) rfl rfl rfl ?_
    exact kw_ireturn (pc := 11) (i := 7) (ty := .int) rfl rfl rfl ⟨⟨I6, F8⟩, _, rfl, hF⟩
noncomputable def f_X8_isLine_0 (σ : kw_S) (i : Int32) : Int32 := kf_l ((σ.1 0 10) - (1 : Int32)) fun z1 => kf_l (f_X8_in σ i (0 : Int32) z1) fun z2 => z2
theorem f_X8_isLine_0_u (σ : kw_S) (i : Int32) : f_X8_isLine_0 σ i = kf_l ((σ.1 0 10) - (1 : Int32)) fun z1 => kf_l (f_X8_in σ i (0 : Int32) z1) fun z2 => z2 := rfl
abbrev p_X8_isLine_0 (T : Int) (σ : kw_S) (i : Int32) : Option Value → kw_S → Prop := fun vv σ' => σ' = σ ∧ ∃ r : Int32, vv = some (.int r) ∧ (r.toInt = 0 ∨ r.toInt = 1) ∧ (r.toInt = 0 ∨ 0 ≤ i.toInt ∧ i.toInt < (σ.1 0 10).toInt ∧ i.toInt ≤ 5) ∧ r = f_X8_isLine_0 σ i
set_option maxRecDepth 100000 in
set_option maxHeartbeats 4000000 in
theorem c_X8_isLine_0 (l : Launch) (T : Int) (hT0 : 0 ≤ T) (hT1 : T ≤ 3000) (σ : kw_S) (hI : kw_I (bM T) σ) (i : Int32) : kw_Met l 2 KM mX8_isLine [.ref 0, .int i] σ (p_X8_isLine_0 T σ i) := by
  have r_i := kw_rng i
  have hF := (f_X8_isLine_0_u σ i).symm
  have q_0 : (0 : Int32).toInt = 0 := rfl
  have q_1 : (1 : Int32).toInt = 1 := rfl
  refine kw_Met.of (by decide) rfl tX8_isLine (Nat.le_of_ble_eq_true rfl) ?_
  show kw_AW l 2 kw_E0 KM mX8_isLine (p_X8_isLine_0 T σ i) 0 [(0, .ref 0), (1, .int i)] [] σ
  refine kw_iload_n (pc := 0) (i := 0) (k := 1) (n := 1) rfl rfl rfl ?_
  refine kw_iconst (pc := 1) (i := 1) (v := 0) rfl rfl ?_
  refine kw_aload_n (pc := 2) (i := 2) (k := 0) (n := 0) rfl rfl rfl ?_
  refine kw_get (pc := 3) (i := 3) (v := .int (σ.1 0 10)) rfl rfl rfl lkX8_163 (fun _ => rfl) ?_
  have b1 : 0 ≤ (σ.1 0 10).toInt ∧ (σ.1 0 10).toInt ≤ 6 := hI 0 10
  refine kw_iconst (pc := 6) (i := 4) (v := 1) rfl rfl ?_
  refine kw_isub (pc := 7) (i := 5) rfl (fun z2 e_z2 t_z2 => ?_)
  replace hF := kf_le e_z2 hF
  first | (have u_z2 : z2.toInt = (σ.1 0 10).toInt - 1 := (by omega); clear t_z2) | skip
  refine kw_callS (pc := 8) (i := 6) (Y := mX8_in) (As := [.int i, .int 0, .int z2]) (st := []) kw_hE rfl lsX8_93 arX8_in (c_X8_in l T hT0 hT1 σ hI i 0 z2 ) (by decide) (Nat.le_of_ble_eq_true rfl) rfl (fun v S4 p3 => ?_)
  obtain ⟨e10, z9, rfl, f5, f6, f7, ef8⟩ := p3
  rw [e10]
  replace hF := kf_le ef8 hF
  have r_z9 := kw_rng z9
  show kw_AW l 2 kw_E0 KM mX8_isLine (p_X8_isLine_0 T σ i) 11 [(0, .ref 0), (1, .int i)] [.int z9] σ
  exact kw_ireturn (pc := 11) (i := 7) (ty := .boolean) rfl rfl (kw_nb (by omega)) ⟨rfl, _, rfl, by omega, by omega, hF⟩
noncomputable def f_X8_isSet_0 (σ : kw_S) (s : Int32) : Int32 := kf_l ((1 : Int32) <<< ((σ.1 0 10) &&& 31)) fun z1 => kf_l (z1 - (1 : Int32)) fun z2 => kf_l (f_X8_in σ s (0 : Int32) z2) fun z3 => z3
theorem f_X8_isSet_0_u (σ : kw_S) (s : Int32) : f_X8_isSet_0 σ s = kf_l ((1 : Int32) <<< ((σ.1 0 10) &&& 31)) fun z1 => kf_l (z1 - (1 : Int32)) fun z2 => kf_l (f_X8_in σ s (0 : Int32) z2) fun z3 => z3 := rfl
abbrev p_X8_isSet_0 (T : Int) (σ : kw_S) (s : Int32) : Option Value → kw_S → Prop := fun vv σ' => σ' = σ ∧ ∃ r : Int32, vv = some (.int r) ∧ (r.toInt = 0 ∨ r.toInt = 1) ∧ r = f_X8_isSet_0 σ s
set_option maxRecDepth 100000 in
set_option maxHeartbeats 4000000 in
theorem c_X8_isSet_0 (l : Launch) (T : Int) (hT0 : 0 ≤ T) (hT1 : T ≤ 3000) (σ : kw_S) (hI : kw_I (bM T) σ) (s : Int32) : kw_Met l 2 KM mX8_isSet [.ref 0, .int s] σ (p_X8_isSet_0 T σ s) := by
  have r_s := kw_rng s
  have hF := (f_X8_isSet_0_u σ s).symm
  have q_0 : (0 : Int32).toInt = 0 := rfl
  have q_1 : (1 : Int32).toInt = 1 := rfl
  refine kw_Met.of (by decide) rfl tX8_isSet (Nat.le_of_ble_eq_true rfl) ?_
  show kw_AW l 2 kw_E0 KM mX8_isSet (p_X8_isSet_0 T σ s) 0 [(0, .ref 0), (1, .int s)] [] σ
  refine kw_iload_n (pc := 0) (i := 0) (k := 1) (n := 1) rfl rfl rfl ?_
  refine kw_iconst (pc := 1) (i := 1) (v := 0) rfl rfl ?_
  refine kw_iconst (pc := 2) (i := 2) (v := 1) rfl rfl ?_
  refine kw_aload_n (pc := 3) (i := 3) (k := 0) (n := 0) rfl rfl rfl ?_
  refine kw_get (pc := 4) (i := 4) (v := .int (σ.1 0 10)) rfl rfl rfl lkX8_163 (fun _ => rfl) ?_
  have b1 : 0 ≤ (σ.1 0 10).toInt ∧ (σ.1 0 10).toInt ≤ 6 := hI 0 10
  refine kw_ishl (pc := 7) (i := 5) rfl (fun z2 e_z2 => ?_)
  have r_z2 := kw_rng z2
  replace hF := kf_le e_z2 hF
  have t_z2 := kw_shlm (σ.1 0 10) z2 e_z2
  first | (replace t_z2 := And.intro (t_z2.1 (by omega) (by omega)) (t_z2.2 (by omega) (by omega))) | (replace t_z2 := t_z2.1 (by omega) (by omega)) | skip
  have u_z2 := congrArg Int32.toInt e_z2
  refine kw_iconst (pc := 8) (i := 6) (v := 1) rfl rfl ?_
  refine kw_isub (pc := 9) (i := 7) rfl (fun z3 e_z3 t_z3 => ?_)
  replace hF := kf_le e_z3 hF
  first | (have u_z3 : z3.toInt = z2.toInt - 1 := (by omega); clear t_z3) | skip
  refine kw_callS (pc := 10) (i := 8) (Y := mX8_in) (As := [.int s, .int 0, .int z3]) (st := []) kw_hE rfl lsX8_93 arX8_in (c_X8_in l T hT0 hT1 σ hI s 0 z3 ) (by decide) (Nat.le_of_ble_eq_true rfl) rfl (fun v S5 p4 => ?_)
  obtain ⟨e11, z10, rfl, f6, f7, f8, ef9⟩ := p4
  rw [e11]
  replace hF := kf_le ef9 hF
  have r_z10 := kw_rng z10
  show kw_AW l 2 kw_E0 KM mX8_isSet (p_X8_isSet_0 T σ s) 13 [(0, .ref 0), (1, .int s)] [.int z10] σ
  exact kw_ireturn (pc := 13) (i := 9) (ty := .boolean) rfl rfl (kw_nb (by omega)) ⟨rfl, _, rfl, by omega, hF⟩
noncomputable def f_X8_windAt_0 (σ : kw_S) (h : Int32) : Int32 := kf_l (h - h / (σ.1 0 11) * (σ.1 0 11)) fun z1 => kf_l (σ.1 7 z1.toNatClampNeg) fun z2 => z2
theorem f_X8_windAt_0_u (σ : kw_S) (h : Int32) : f_X8_windAt_0 σ h = kf_l (h - h / (σ.1 0 11) * (σ.1 0 11)) fun z1 => kf_l (σ.1 7 z1.toNatClampNeg) fun z2 => z2 := rfl
abbrev p_X8_windAt_0 (T : Int) (σ : kw_S) (h : Int32) : Option Value → kw_S → Prop := fun vv σ' => σ' = σ ∧ ∃ r : Int32, vv = some (.int r) ∧ r = f_X8_windAt_0 σ h
set_option maxRecDepth 100000 in
set_option maxHeartbeats 4000000 in
theorem c_X8_windAt_0 (l : Launch) (T : Int) (hT0 : 0 ≤ T) (hT1 : T ≤ 3000) (σ : kw_S) (hI : kw_I (bM T) σ) (h : Int32) (hp0 : 0 ≤ h.toInt) : kw_Met l 1 KM mX8_windAt [.ref 0, .int h] σ (p_X8_windAt_0 T σ h) := by
  have r_h := kw_rng h
  have hF := (f_X8_windAt_0_u σ h).symm
  refine kw_Met.of (by decide) rfl tX8_windAt (Nat.le_of_ble_eq_true rfl) ?_
  show kw_AW l 1 kw_E0 KM mX8_windAt (p_X8_windAt_0 T σ h) 0 [(0, .ref 0), (1, .int h)] [] σ
  refine kw_aload_n (pc := 0) (i := 0) (k := 0) (n := 0) rfl rfl rfl ?_
  refine kw_get (pc := 1) (i := 1) (v := .ref 7) rfl rfl rfl lkX8_36 (fun _ => rfl) ?_
  refine kw_iload_n (pc := 4) (i := 2) (k := 1) (n := 1) rfl rfl rfl ?_
  refine kw_aload_n (pc := 5) (i := 3) (k := 0) (n := 0) rfl rfl rfl ?_
  refine kw_get (pc := 6) (i := 4) (v := .int (σ.1 0 11)) rfl rfl rfl lkX8_32 (fun _ => rfl) ?_
  have b1 : 1 ≤ (σ.1 0 11).toInt ∧ (σ.1 0 11).toInt ≤ 8 := hI 0 11
  refine kw_irem (pc := 9) (i := 5) rfl (by omega) (fun z2 e_z2 => ?_)
  have r_z2 := kw_rng z2
  replace hF := kf_le e_z2 hF
  have t_z2 := kw_remI h (σ.1 0 11) z2 e_z2
  refine kw_iald (pc := 10) (i := 6) (n := 8) rfl rfl (by omega) (by omega) (fun z3 e_z3 => ?_)
  replace hF := kf_le e_z3 hF
  have t_z3 := congrArg Int32.toInt e_z3
  have r_z3 := kw_rng z3
  exact kw_ireturn (pc := 11) (i := 7) (ty := .int) rfl rfl rfl ⟨rfl, _, rfl, hF⟩
noncomputable def f_X8_pullBy (σ : kw_S) (kind : Int32) (area : Int32) (w : Int32) : Int32 := kf_l (area * w) fun z1 => kf_l (z1 + w) fun z2 => if kind.toInt = 1 then (z2) else if kind.toInt = 2 then (if w.toInt < (3 : Int32).toInt then ((0 : Int32)) else (kf_l (area * w) fun z3 => z3)) else if kind.toInt = 3 then (kf_l (-area) fun z4 => kf_l (z4 * w) fun z5 => z5) else if kind.toInt = 4 then (kf_l ((2 : Int32) * z2) fun z6 => z6) else if kind.toInt = 5 then (kf_l ((2 : Int32) * z2) fun z7 => kf_l (z7 / (3 : Int32)) fun z8 => z8) else (kf_l (area * w) fun z9 => z9)
theorem f_X8_pullBy_u (σ : kw_S) (kind : Int32) (area : Int32) (w : Int32) : f_X8_pullBy σ kind area w = kf_l (area * w) fun z1 => kf_l (z1 + w) fun z2 => if kind.toInt = 1 then (z2) else if kind.toInt = 2 then (if w.toInt < (3 : Int32).toInt then ((0 : Int32)) else (kf_l (area * w) fun z3 => z3)) else if kind.toInt = 3 then (kf_l (-area) fun z4 => kf_l (z4 * w) fun z5 => z5) else if kind.toInt = 4 then (kf_l ((2 : Int32) * z2) fun z6 => z6) else if kind.toInt = 5 then (kf_l ((2 : Int32) * z2) fun z7 => kf_l (z7 / (3 : Int32)) fun z8 => z8) else (kf_l (area * w) fun z9 => z9) := rfl
abbrev p_X8_pullBy (T : Int) (σ : kw_S) (kind : Int32) (area : Int32) (w : Int32) : Option Value → kw_S → Prop := fun vv σ' => σ' = σ ∧ ∃ r : Int32, vv = some (.int r) ∧ r = f_X8_pullBy σ kind area w
set_option maxRecDepth 100000 in
set_option maxHeartbeats 4000000 in
theorem c_X8_pullBy (l : Launch) (T : Int) (hT0 : 0 ≤ T) (hT1 : T ≤ 3000) (σ : kw_S) (hI : kw_I (bM T) σ) (kind : Int32) (area : Int32) (w : Int32) : kw_Met l 1 KM mX8_pullBy [.int kind, .int area, .int w] σ (p_X8_pullBy T σ kind area w) := by
  have r_kind := kw_rng kind
  have r_area := kw_rng area
  have r_w := kw_rng w
  have hF := (f_X8_pullBy_u σ kind area w).symm
  have q_0 : (0 : Int32).toInt = 0 := rfl
  have q_2 : (2 : Int32).toInt = 2 := rfl
  have q_3 : (3 : Int32).toInt = 3 := rfl
  refine kw_Met.of (by decide) rfl tX8_pullBy (Nat.le_of_ble_eq_true rfl) ?_
  show kw_AW l 1 kw_E0 KM mX8_pullBy (p_X8_pullBy T σ kind area w) 0 [(0, .int kind), (1, .int area), (2, .int w)] [] σ
  refine kw_iload_n (pc := 0) (i := 0) (k := 1) (n := 1) rfl rfl rfl ?_
  refine kw_iload_n (pc := 1) (i := 1) (k := 2) (n := 2) rfl rfl rfl ?_
  refine kw_imul (pc := 2) (i := 2) rfl (fun z1 e_z1 t_z1 => ?_)
  replace hF := kf_le e_z1 hF
  refine kw_iload_n (pc := 3) (i := 3) (k := 2) (n := 2) rfl rfl rfl ?_
  refine kw_iadd (pc := 4) (i := 4) rfl (fun z2 e_z2 t_z2 => ?_)
  replace hF := kf_le e_z2 hF
  first | (have u_z2 : z2.toInt = z1.toInt + w.toInt := (by omega); clear t_z2) | skip
  refine kw_istore_n (pc := 5) (i := 5) (n := 3) (lv' := [(3, .int z2), (0, .int kind), (1, .int area), (2, .int w)]) rfl rfl (by decide) rfl ?_
  refine kw_iload_n (pc := 6) (i := 6) (k := 1) (n := 0) rfl rfl rfl ?_
  by_cases c3 : kind.toInt = 1
  · refine kw_tableIn (pc := 7) (i := 7) (k := 0) (tgt := 40) rfl (by omega) (by decide) rfl rfl ?_
    replace hF := kf_p c3 hF
    refine kw_iload_n (pc := 40) (i := 8) (k := 0) (n := 3) rfl rfl rfl ?_
    exact kw_ireturn (pc := 41) (i := 9) (ty := .int) rfl rfl rfl ⟨rfl, _, rfl, hF⟩
  replace hF := kf_n c3 hF
  by_cases c4 : kind.toInt = 2
  · refine kw_tableIn (pc := 7) (i := 7) (k := 1) (tgt := 42) rfl (by omega) (by decide) rfl rfl ?_
    replace hF := kf_p c4 hF
    refine kw_iload_n (pc := 42) (i := 10) (k := 3) (n := 2) rfl rfl rfl ?_
    refine kw_iconst (pc := 43) (i := 11) (v := 3) rfl rfl ?_
    refine kw_icmp_ge (pc := 44) (i := 12) (tgt := 51) rfl rfl (fun c5 => ?_) (fun c5 => ?_)
    · replace hF := kf_nl c5 hF
      refine kw_iload_n (pc := 51) (i := 15) (k := 2) (n := 1) rfl rfl rfl ?_
      refine kw_iload_n (pc := 52) (i := 16) (k := 3) (n := 2) rfl rfl rfl ?_
      refine kw_imul (pc := 53) (i := 17) rfl (fun z6 e_z6 t_z6 => ?_)
      replace hF := kf_le e_z6 hF
      exact kw_ireturn (pc := 54) (i := 18) (ty := .int) rfl rfl rfl ⟨rfl, _, rfl, hF⟩
    · replace hF := kf_p c5 hF
      refine kw_iconst (pc := 47) (i := 13) (v := 0) rfl rfl ?_
      refine kw_goto (pc := 48) (i := 14) (tgt := 54) rfl rfl ?_
      exact kw_ireturn (pc := 54) (i := 18) (ty := .int) rfl rfl rfl ⟨rfl, _, rfl, hF⟩
  replace hF := kf_n c4 hF
  by_cases c7 : kind.toInt = 3
  · refine kw_tableIn (pc := 7) (i := 7) (k := 2) (tgt := 55) rfl (by omega) (by decide) rfl rfl ?_
    replace hF := kf_p c7 hF
    refine kw_iload_n (pc := 55) (i := 19) (k := 2) (n := 1) rfl rfl rfl ?_
    refine kw_ineg (pc := 56) (i := 20) rfl (fun z8 e_z8 t_z8 => ?_)
    replace hF := kf_le e_z8 hF
    refine kw_iload_n (pc := 57) (i := 21) (k := 3) (n := 2) rfl rfl rfl ?_
    refine kw_imul (pc := 58) (i := 22) rfl (fun z9 e_z9 t_z9 => ?_)
    replace hF := kf_le e_z9 hF
    exact kw_ireturn (pc := 59) (i := 23) (ty := .int) rfl rfl rfl ⟨rfl, _, rfl, hF⟩
  replace hF := kf_n c7 hF
  by_cases c10 : kind.toInt = 4
  · refine kw_tableIn (pc := 7) (i := 7) (k := 3) (tgt := 60) rfl (by omega) (by decide) rfl rfl ?_
    replace hF := kf_p c10 hF
    refine kw_iconst (pc := 60) (i := 24) (v := 2) rfl rfl ?_
    refine kw_iload_n (pc := 61) (i := 25) (k := 0) (n := 3) rfl rfl rfl ?_
    refine kw_imul (pc := 62) (i := 26) rfl (fun z11 e_z11 t_z11 => ?_)
    replace hF := kf_le e_z11 hF
    rw [show (2 : Int32).toInt = 2 from rfl] at t_z11
    first | (have u_z11 : z11.toInt = 2 * z2.toInt := (by omega); clear t_z11) | skip
    exact kw_ireturn (pc := 63) (i := 27) (ty := .int) rfl rfl rfl ⟨rfl, _, rfl, hF⟩
  replace hF := kf_n c10 hF
  by_cases c12 : kind.toInt = 5
  · refine kw_tableIn (pc := 7) (i := 7) (k := 4) (tgt := 64) rfl (by omega) (by decide) rfl rfl ?_
    replace hF := kf_p c12 hF
    refine kw_iconst (pc := 64) (i := 28) (v := 2) rfl rfl ?_
    refine kw_iload_n (pc := 65) (i := 29) (k := 0) (n := 3) rfl rfl rfl ?_
    refine kw_imul (pc := 66) (i := 30) rfl (fun z13 e_z13 t_z13 => ?_)
    replace hF := kf_le e_z13 hF
    rw [show (2 : Int32).toInt = 2 from rfl] at t_z13
    first | (have u_z13 : z13.toInt = 2 * z2.toInt := (by omega); clear t_z13) | skip
    refine kw_iconst (pc := 67) (i := 31) (v := 3) rfl rfl ?_
    refine kw_idiv (pc := 68) (i := 32) rfl (by omega) (fun z14 e_z14 => ?_)
    have r_z14 := kw_rng z14
    replace hF := kf_le e_z14 hF
    exact kw_ireturn (pc := 69) (i := 33) (ty := .int) rfl rfl rfl ⟨rfl, _, rfl, hF⟩
  replace hF := kf_n c12 hF
  refine kw_tableOut (pc := 7) (i := 7) (tgt := 70) rfl (by omega) rfl ?_
  refine kw_iload_n (pc := 70) (i := 34) (k := 2) (n := 1) rfl rfl rfl ?_
  refine kw_iload_n (pc := 71) (i := 35) (k := 3) (n := 2) rfl rfl rfl ?_
  refine kw_imul (pc := 72) (i := 36) rfl (fun z15 e_z15 t_z15 => ?_)
  replace hF := kf_le e_z15 hF
  exact kw_ireturn (pc := 73) (i := 37) (ty := .int) rfl rfl rfl ⟨rfl, _, rfl, hF⟩
noncomputable def f_X8_pullOf_0 (σ : kw_S) (i : Int32) (w : Int32) : Int32 := kf_l (σ.1 8 i.toNatClampNeg) fun z1 => kf_l (σ.1 10 i.toNatClampNeg) fun z2 => kf_l (f_X8_pullBy σ z1 z2 w) fun z3 => z3
theorem f_X8_pullOf_0_u (σ : kw_S) (i : Int32) (w : Int32) : f_X8_pullOf_0 σ i w = kf_l (σ.1 8 i.toNatClampNeg) fun z1 => kf_l (σ.1 10 i.toNatClampNeg) fun z2 => kf_l (f_X8_pullBy σ z1 z2 w) fun z3 => z3 := rfl
abbrev p_X8_pullOf_0 (T : Int) (σ : kw_S) (i : Int32) (w : Int32) : Option Value → kw_S → Prop := fun vv σ' => σ' = σ ∧ ∃ r : Int32, vv = some (.int r) ∧ r = f_X8_pullOf_0 σ i w
set_option maxRecDepth 100000 in
set_option maxHeartbeats 4000000 in
theorem c_X8_pullOf_0 (l : Launch) (T : Int) (hT0 : 0 ≤ T) (hT1 : T ≤ 3000) (σ : kw_S) (hI : kw_I (bM T) σ) (i : Int32) (w : Int32) (hp0 : 0 ≤ i.toInt) (hp1 : i.toInt ≤ 5) : kw_Met l 2 KM mX8_pullOf [.ref 0, .int i, .int w] σ (p_X8_pullOf_0 T σ i w) := by
  have r_i := kw_rng i
  have r_w := kw_rng w
  have hF := (f_X8_pullOf_0_u σ i w).symm
  refine kw_Met.of (by decide) rfl tX8_pullOf (Nat.le_of_ble_eq_true rfl) ?_
  show kw_AW l 2 kw_E0 KM mX8_pullOf (p_X8_pullOf_0 T σ i w) 0 [(0, .ref 0), (1, .int i), (2, .int w)] [] σ
  refine kw_aload_n (pc := 0) (i := 0) (k := 0) (n := 0) rfl rfl rfl ?_
  refine kw_get (pc := 1) (i := 1) (v := .ref 8) rfl rfl rfl lkX8_39 (fun _ => rfl) ?_
  refine kw_iload_n (pc := 4) (i := 2) (k := 1) (n := 1) rfl rfl rfl ?_
  refine kw_iald (pc := 5) (i := 3) (n := 6) rfl rfl (by omega) (by omega) (fun z1 e_z1 => ?_)
  replace hF := kf_le e_z1 hF
  have t_z1 := congrArg Int32.toInt e_z1
  have r_z1 := kw_rng z1
  refine kw_aload_n (pc := 6) (i := 4) (k := 0) (n := 0) rfl rfl rfl ?_
  refine kw_get (pc := 7) (i := 5) (v := .ref 10) rfl rfl rfl lkX8_45 (fun _ => rfl) ?_
  refine kw_iload_n (pc := 10) (i := 6) (k := 1) (n := 1) rfl rfl rfl ?_
  refine kw_iald (pc := 11) (i := 7) (n := 6) rfl rfl (by omega) (by omega) (fun z2 e_z2 => ?_)
  replace hF := kf_le e_z2 hF
  have t_z2 := congrArg Int32.toInt e_z2
  have r_z2 := kw_rng z2
  refine kw_iload_n (pc := 12) (i := 8) (k := 2) (n := 2) rfl rfl rfl ?_
  refine kw_callS (pc := 13) (i := 9) (Y := mX8_pullBy) (As := [.int z1, .int z2, .int w]) (st := []) kw_hE rfl lsX8_181 arX8_pullBy (c_X8_pullBy l T hT0 hT1 σ hI z1 z2 w ) (by decide) (Nat.le_of_ble_eq_true rfl) rfl (fun v S4 p3 => ?_)
  obtain ⟨e7, z6, rfl, ef5⟩ := p3
  rw [e7]
  replace hF := kf_le ef5 hF
  have r_z6 := kw_rng z6
  show kw_AW l 2 kw_E0 KM mX8_pullOf (p_X8_pullOf_0 T σ i w) 16 [(0, .ref 0), (1, .int i), (2, .int w)] [.int z6] σ
  exact kw_ireturn (pc := 16) (i := 10) (ty := .int) rfl rfl rfl ⟨rfl, _, rfl, hF⟩
noncomputable def l_X8_milesBy_0_5 (a1 : Int32) (a2 : Int32) (S : kw_S) : Nat → Int32 → Int32 → Int32
  | 0, _, _ => 0
  | n + 1, x3, x4 => if x4.toInt < (S.1 0 10).toInt then (kf_l (f_X8_has S a1 x4) fun z2 => if z2.toInt = 0 then (kf_l (x3 + (0 : Int32)) fun z3 => kf_l (x4 + Int32.ofInt 1) fun z4 => l_X8_milesBy_0_5 a1 a2 S n z3 z4) else (kf_l (f_X8_pullOf_0 S x4 a2) fun z5 => kf_l (x3 + z5) fun z6 => kf_l (x4 + Int32.ofInt 1) fun z7 => l_X8_milesBy_0_5 a1 a2 S n z6 z7)) else (kf_l (x3 / (4 : Int32)) fun z1 => z1)
theorem l_X8_milesBy_0_5_s (a1 : Int32) (a2 : Int32) (S : kw_S) (n : Nat) (x3 : Int32) (x4 : Int32) : l_X8_milesBy_0_5 a1 a2 S (n + 1) x3 x4 = if x4.toInt < (S.1 0 10).toInt then (kf_l (f_X8_has S a1 x4) fun z2 => if z2.toInt = 0 then (kf_l (x3 + (0 : Int32)) fun z3 => kf_l (x4 + Int32.ofInt 1) fun z4 => l_X8_milesBy_0_5 a1 a2 S n z3 z4) else (kf_l (f_X8_pullOf_0 S x4 a2) fun z5 => kf_l (x3 + z5) fun z6 => kf_l (x4 + Int32.ofInt 1) fun z7 => l_X8_milesBy_0_5 a1 a2 S n z6 z7)) else (kf_l (x3 / (4 : Int32)) fun z1 => z1) := rfl
noncomputable def f_X8_milesBy_0 (σ : kw_S) (s : Int32) (w : Int32) : Int32 := l_X8_milesBy_0_5 s w σ ((7 - (0 : Int32).toInt).toNat + 1) (0 : Int32) (0 : Int32)
theorem f_X8_milesBy_0_u (σ : kw_S) (s : Int32) (w : Int32) : f_X8_milesBy_0 σ s w = l_X8_milesBy_0_5 s w σ ((7 - (0 : Int32).toInt).toNat + 1) (0 : Int32) (0 : Int32) := rfl
abbrev p_X8_milesBy_0 (T : Int) (σ : kw_S) (s : Int32) (w : Int32) : Option Value → kw_S → Prop := fun vv σ' => σ' = σ ∧ ∃ r : Int32, vv = some (.int r) ∧ r = f_X8_milesBy_0 σ s w
set_option maxRecDepth 100000 in
set_option maxHeartbeats 4000000 in
theorem c_X8_milesBy_0 (l : Launch) (T : Int) (hT0 : 0 ≤ T) (hT1 : T ≤ 3000) (σ : kw_S) (hI : kw_I (bM T) σ) (s : Int32) (w : Int32) : kw_Met l 3 KM mX8_milesBy [.ref 0, .int s, .int w] σ (p_X8_milesBy_0 T σ s w) := by
  have r_s := kw_rng s
  have r_w := kw_rng w
  have hF := (f_X8_milesBy_0_u σ s w).symm
  have q_0 : (0 : Int32).toInt = 0 := rfl
  have q_4 : (4 : Int32).toInt = 4 := rfl
  refine kw_Met.of (by decide) rfl tX8_milesBy (Nat.le_of_ble_eq_true rfl) ?_
  show kw_AW l 3 kw_E0 KM mX8_milesBy (p_X8_milesBy_0 T σ s w) 0 [(0, .ref 0), (1, .int s), (2, .int w)] [] σ
  refine kw_iconst (pc := 0) (i := 0) (v := 0) rfl rfl ?_
  refine kw_istore_n (pc := 1) (i := 1) (n := 3) (lv' := [(3, .int 0), (0, .ref 0), (1, .int s), (2, .int w)]) rfl rfl (by decide) rfl ?_
  refine kw_iconst (pc := 2) (i := 2) (v := 0) rfl rfl ?_
  refine kw_istore (pc := 3) (i := 3) (n := 4) (lv' := [(4, .int 0), (3, .int 0), (0, .ref 0), (1, .int s), (2, .int w)]) rfl (by decide) rfl ?_
  have L3 : ∀ (n7 : Nat) (x1 : Int32) (x2 : Int32), 0 ≤ x1.toInt → l_X8_milesBy_0_5 s w σ n7 x2 x1 = (f_X8_milesBy_0 σ s w) → (7 - x1.toInt).toNat < n7 → kw_AW l 3 kw_E0 KM mX8_milesBy (p_X8_milesBy_0 T σ s w) 5 [(4, .int x1), (3, .int x2), (0, .ref 0), (1, .int s), (2, .int w)] [] σ := by
    intro n7
    induction n7 with
    | zero => intro x1 x2 v5 hF m6; exact absurd m6 (Nat.not_lt_zero _)
    | succ n7 ih4 =>
      intro x1 x2 v5 hF m6
      replace hF := kf_st (l_X8_milesBy_0_5_s _ _ _ _ _ _) hF
      have r_x1 := kw_rng x1
      have r_x2 := kw_rng x2
      refine kw_iload (pc := 5) (i := 4) (k := 0) (n := 4) rfl rfl ?_
      refine kw_aload_n (pc := 7) (i := 5) (k := 2) (n := 0) rfl rfl rfl ?_
      refine kw_get (pc := 8) (i := 6) (v := .int (σ.1 0 10)) rfl rfl rfl lkX8_163 (fun _ => rfl) ?_
      have b8 : 0 ≤ (σ.1 0 10).toInt ∧ (σ.1 0 10).toInt ≤ 6 := hI 0 10
      refine kw_icmp_ge (pc := 11) (i := 7) (tgt := 43) rfl rfl (fun c9 => ?_) (fun c9 => ?_)
      · replace hF := kf_nl c9 hF
        refine kw_iload_n (pc := 43) (i := 23) (k := 1) (n := 3) rfl rfl rfl ?_
        refine kw_iconst (pc := 44) (i := 24) (v := 4) rfl rfl ?_
        refine kw_idiv (pc := 45) (i := 25) rfl (by omega) (fun z10 e_z10 => ?_)
        have r_z10 := kw_rng z10
        replace hF := kf_le e_z10 hF
        exact kw_ireturn (pc := 46) (i := 26) (ty := .int) rfl rfl rfl ⟨rfl, _, rfl, hF⟩
      · replace hF := kf_p c9 hF
        refine kw_iload_n (pc := 14) (i := 8) (k := 1) (n := 3) rfl rfl rfl ?_
        refine kw_iload_n (pc := 15) (i := 9) (k := 3) (n := 1) rfl rfl rfl ?_
        refine kw_iload (pc := 16) (i := 10) (k := 0) (n := 4) rfl rfl ?_
        refine kw_callS (pc := 18) (i := 11) (Y := mX8_has) (As := [.int s, .int x1]) (st := [.int x2]) kw_hE rfl lsX8_185 arX8_has (c_X8_has l T hT0 hT1 σ hI s x1 ) (by decide) (Nat.le_of_ble_eq_true rfl) rfl (fun v S12 p11 => ?_)
        obtain ⟨e16, z15, rfl, f13, ef14⟩ := p11
        rw [e16]
        replace hF := kf_le ef14 hF
        have r_z15 := kw_rng z15
        show kw_AW l 3 kw_E0 KM mX8_milesBy (p_X8_milesBy_0 T σ s w) 21 [(4, .int x1), (3, .int x2), (0, .ref 0), (1, .int s), (2, .int w)] [.int z15, .int x2] σ
        refine kw_if_eq (pc := 21) (i := 12) (tgt := 34) rfl rfl (fun c17 => ?_) (fun c17 => ?_)
        · replace hF := kf_p c17 hF
          refine kw_iconst (pc := 34) (i := 18) (v := 0) rfl rfl ?_
          refine kw_iadd (pc := 35) (i := 19) rfl (fun z18 e_z18 t_z18 => ?_)
          replace hF := kf_le e_z18 hF
          first | (have u_z18 : z18.toInt = x2.toInt + 0 := (by omega); clear t_z18) | skip
          refine kw_istore_n (pc := 36) (i := 20) (n := 3) (lv' := [(3, .int z18), (4, .int x1), (0, .ref 0), (1, .int s), (2, .int w)]) rfl rfl (by decide) rfl ?_
          refine kw_iinc' (pc := 37) (i := 21) (k := 1) (fun z => [(4, .int z), (3, .int z18), (0, .ref 0), (1, .int s), (2, .int w)]) rfl rfl (by decide) rfl (fun _ => rfl) (fun z19 e_z19 t_z19 => ?_)
          replace hF := kf_le e_z19 hF
          first | (have u_z19 : z19.toInt = x1.toInt + 1 := (by omega); clear t_z19) | skip
          refine kw_goto (pc := 40) (i := 22) (tgt := 5) rfl rfl ?_
          refine kw_sub (lv' := [(4, .int z19), (3, .int z18), (0, .ref 0), (1, .int s), (2, .int w)]) [0, 1, 2, 3, 4] rfl ?_
          exact ih4 z19 z18 (by omega) hF (by omega)
        · replace hF := kf_n c17 hF
          refine kw_aload_n (pc := 24) (i := 13) (k := 2) (n := 0) rfl rfl rfl ?_
          refine kw_iload (pc := 25) (i := 14) (k := 0) (n := 4) rfl rfl ?_
          refine kw_iload_n (pc := 27) (i := 15) (k := 4) (n := 2) rfl rfl rfl ?_
          refine kw_callV (pc := 28) (i := 16) (Y := mX8_pullOf) (a := 0) (As := [.int x1, .int w]) (st := [.int x2]) kw_hE rfl rfl lvX8_189 arX8_pullOf (c_X8_pullOf_0 l T hT0 hT1 σ hI x1 w (by first | omega | decide) (by first | omega | decide)) (by decide) (Nat.le_of_ble_eq_true rfl) rfl (fun v S21 p20 => ?_)
          obtain ⟨e24, z23, rfl, ef22⟩ := p20
          rw [e24]
          replace hF := kf_le ef22 hF
          have r_z23 := kw_rng z23
          show kw_AW l 3 kw_E0 KM mX8_milesBy (p_X8_milesBy_0 T σ s w) 31 [(4, .int x1), (3, .int x2), (0, .ref 0), (1, .int s), (2, .int w)] [.int z23, .int x2] σ
          refine kw_goto (pc := 31) (i := 17) (tgt := 35) rfl rfl ?_
          refine kw_iadd (pc := 35) (i := 19) rfl (fun z25 e_z25 t_z25 => ?_)
          replace hF := kf_le e_z25 hF
          first | (have u_z25 : z25.toInt = x2.toInt + z23.toInt := (by omega); clear t_z25) | skip
          refine kw_istore_n (pc := 36) (i := 20) (n := 3) (lv' := [(3, .int z25), (4, .int x1), (0, .ref 0), (1, .int s), (2, .int w)]) rfl rfl (by decide) rfl ?_
          refine kw_iinc' (pc := 37) (i := 21) (k := 1) (fun z => [(4, .int z), (3, .int z25), (0, .ref 0), (1, .int s), (2, .int w)]) rfl rfl (by decide) rfl (fun _ => rfl) (fun z26 e_z26 t_z26 => ?_)
          replace hF := kf_le e_z26 hF
          first | (have u_z26 : z26.toInt = x1.toInt + 1 := (by omega); clear t_z26) | skip
          refine kw_goto (pc := 40) (i := 22) (tgt := 5) rfl rfl ?_
          refine kw_sub (lv' := [(4, .int z26), (3, .int z25), (0, .ref 0), (1, .int s), (2, .int w)]) [0, 1, 2, 3, 4] rfl ?_
          exact ih4 z26 z25 (by omega) hF (by omega)
  exact L3 _ 0 0 (by omega) hF (Nat.lt_succ_self _)
noncomputable def l_X8_turnBy_0_5 (a1 : Int32) (a2 : Int32) (S : kw_S) : Nat → Int32 → Int32 → Int32
  | 0, _, _ => 0
  | n + 1, x3, x4 => if x4.toInt < (S.1 0 10).toInt then (kf_l (f_X8_has S a1 x4) fun z1 => if z1.toInt = 0 then (kf_l (x3 + (0 : Int32)) fun z2 => kf_l (x4 + Int32.ofInt 1) fun z3 => l_X8_turnBy_0_5 a1 a2 S n z2 z3) else (kf_l (f_X8_pullOf_0 S x4 a2) fun z4 => kf_l (S.1 9 x4.toNatClampNeg) fun z5 => kf_l (z4 * z5) fun z6 => kf_l (x3 + z6) fun z7 => kf_l (x4 + Int32.ofInt 1) fun z8 => l_X8_turnBy_0_5 a1 a2 S n z7 z8)) else (x3)
theorem l_X8_turnBy_0_5_s (a1 : Int32) (a2 : Int32) (S : kw_S) (n : Nat) (x3 : Int32) (x4 : Int32) : l_X8_turnBy_0_5 a1 a2 S (n + 1) x3 x4 = if x4.toInt < (S.1 0 10).toInt then (kf_l (f_X8_has S a1 x4) fun z1 => if z1.toInt = 0 then (kf_l (x3 + (0 : Int32)) fun z2 => kf_l (x4 + Int32.ofInt 1) fun z3 => l_X8_turnBy_0_5 a1 a2 S n z2 z3) else (kf_l (f_X8_pullOf_0 S x4 a2) fun z4 => kf_l (S.1 9 x4.toNatClampNeg) fun z5 => kf_l (z4 * z5) fun z6 => kf_l (x3 + z6) fun z7 => kf_l (x4 + Int32.ofInt 1) fun z8 => l_X8_turnBy_0_5 a1 a2 S n z7 z8)) else (x3) := rfl
noncomputable def f_X8_turnBy_0 (σ : kw_S) (s : Int32) (w : Int32) : Int32 := l_X8_turnBy_0_5 s w σ ((7 - (0 : Int32).toInt).toNat + 1) (0 : Int32) (0 : Int32)
theorem f_X8_turnBy_0_u (σ : kw_S) (s : Int32) (w : Int32) : f_X8_turnBy_0 σ s w = l_X8_turnBy_0_5 s w σ ((7 - (0 : Int32).toInt).toNat + 1) (0 : Int32) (0 : Int32) := rfl
abbrev p_X8_turnBy_0 (T : Int) (σ : kw_S) (s : Int32) (w : Int32) : Option Value → kw_S → Prop := fun vv σ' => σ' = σ ∧ ∃ r : Int32, vv = some (.int r) ∧ r = f_X8_turnBy_0 σ s w
set_option maxRecDepth 100000 in
set_option maxHeartbeats 4000000 in
theorem c_X8_turnBy_0 (l : Launch) (T : Int) (hT0 : 0 ≤ T) (hT1 : T ≤ 3000) (σ : kw_S) (hI : kw_I (bM T) σ) (s : Int32) (w : Int32) : kw_Met l 3 KM mX8_turnBy [.ref 0, .int s, .int w] σ (p_X8_turnBy_0 T σ s w) := by
  have r_s := kw_rng s
  have r_w := kw_rng w
  have hF := (f_X8_turnBy_0_u σ s w).symm
  have q_0 : (0 : Int32).toInt = 0 := rfl
  refine kw_Met.of (by decide) rfl tX8_turnBy (Nat.le_of_ble_eq_true rfl) ?_
  show kw_AW l 3 kw_E0 KM mX8_turnBy (p_X8_turnBy_0 T σ s w) 0 [(0, .ref 0), (1, .int s), (2, .int w)] [] σ
  refine kw_iconst (pc := 0) (i := 0) (v := 0) rfl rfl ?_
  refine kw_istore_n (pc := 1) (i := 1) (n := 3) (lv' := [(3, .int 0), (0, .ref 0), (1, .int s), (2, .int w)]) rfl rfl (by decide) rfl ?_
  refine kw_iconst (pc := 2) (i := 2) (v := 0) rfl rfl ?_
  refine kw_istore (pc := 3) (i := 3) (n := 4) (lv' := [(4, .int 0), (3, .int 0), (0, .ref 0), (1, .int s), (2, .int w)]) rfl (by decide) rfl ?_
  have L3 : ∀ (n7 : Nat) (x1 : Int32) (x2 : Int32), 0 ≤ x1.toInt → l_X8_turnBy_0_5 s w σ n7 x2 x1 = (f_X8_turnBy_0 σ s w) → (7 - x1.toInt).toNat < n7 → kw_AW l 3 kw_E0 KM mX8_turnBy (p_X8_turnBy_0 T σ s w) 5 [(4, .int x1), (3, .int x2), (0, .ref 0), (1, .int s), (2, .int w)] [] σ := by
    intro n7
    induction n7 with
    | zero => intro x1 x2 v5 hF m6; exact absurd m6 (Nat.not_lt_zero _)
    | succ n7 ih4 =>
      intro x1 x2 v5 hF m6
      replace hF := kf_st (l_X8_turnBy_0_5_s _ _ _ _ _ _) hF
      have r_x1 := kw_rng x1
      have r_x2 := kw_rng x2
      refine kw_iload (pc := 5) (i := 4) (k := 0) (n := 4) rfl rfl ?_
      refine kw_aload_n (pc := 7) (i := 5) (k := 2) (n := 0) rfl rfl rfl ?_
      refine kw_get (pc := 8) (i := 6) (v := .int (σ.1 0 10)) rfl rfl rfl lkX8_163 (fun _ => rfl) ?_
      have b8 : 0 ≤ (σ.1 0 10).toInt ∧ (σ.1 0 10).toInt ≤ 6 := hI 0 10
      refine kw_icmp_ge (pc := 11) (i := 7) (tgt := 51) rfl rfl (fun c9 => ?_) (fun c9 => ?_)
      · replace hF := kf_nl c9 hF
        refine kw_iload_n (pc := 51) (i := 28) (k := 1) (n := 3) rfl rfl rfl ?_
        exact kw_ireturn (pc := 52) (i := 29) (ty := .int) rfl rfl rfl ⟨rfl, _, rfl, hF⟩
      · replace hF := kf_p c9 hF
        refine kw_iload_n (pc := 14) (i := 8) (k := 1) (n := 3) rfl rfl rfl ?_
        refine kw_iload_n (pc := 15) (i := 9) (k := 3) (n := 1) rfl rfl rfl ?_
        refine kw_iload (pc := 16) (i := 10) (k := 0) (n := 4) rfl rfl ?_
        refine kw_callS (pc := 18) (i := 11) (Y := mX8_has) (As := [.int s, .int x1]) (st := [.int x2]) kw_hE rfl lsX8_185 arX8_has (c_X8_has l T hT0 hT1 σ hI s x1 ) (by decide) (Nat.le_of_ble_eq_true rfl) rfl (fun v S11 p10 => ?_)
        obtain ⟨e15, z14, rfl, f12, ef13⟩ := p10
        rw [e15]
        replace hF := kf_le ef13 hF
        have r_z14 := kw_rng z14
        show kw_AW l 3 kw_E0 KM mX8_turnBy (p_X8_turnBy_0 T σ s w) 21 [(4, .int x1), (3, .int x2), (0, .ref 0), (1, .int s), (2, .int w)] [.int z14, .int x2] σ
        refine kw_if_eq (pc := 21) (i := 12) (tgt := 42) rfl rfl (fun c16 => ?_) (fun c16 => ?_)
        · replace hF := kf_p c16 hF
          refine kw_iconst (pc := 42) (i := 23) (v := 0) rfl rfl ?_
          refine kw_iadd (pc := 43) (i := 24) rfl (fun z17 e_z17 t_z17 => ?_)
          replace hF := kf_le e_z17 hF
          first | (have u_z17 : z17.toInt = x2.toInt + 0 := (by omega); clear t_z17) | skip
          refine kw_istore_n (pc := 44) (i := 25) (n := 3) (lv' := [(3, .int z17), (4, .int x1), (0, .ref 0), (1, .int s), (2, .int w)]) rfl rfl (by decide) rfl ?_
          refine kw_iinc' (pc := 45) (i := 26) (k := 1) (fun z => [(4, .int z), (3, .int z17), (0, .ref 0), (1, .int s), (2, .int w)]) rfl rfl (by decide) rfl (fun _ => rfl) (fun z18 e_z18 t_z18 => ?_)
          replace hF := kf_le e_z18 hF
          first | (have u_z18 : z18.toInt = x1.toInt + 1 := (by omega); clear t_z18) | skip
          refine kw_goto (pc := 48) (i := 27) (tgt := 5) rfl rfl ?_
          refine kw_sub (lv' := [(4, .int z18), (3, .int z17), (0, .ref 0), (1, .int s), (2, .int w)]) [0, 1, 2, 3, 4] rfl ?_
          exact ih4 z18 z17 (by omega) hF (by omega)
        · replace hF := kf_n c16 hF
          refine kw_aload_n (pc := 24) (i := 13) (k := 2) (n := 0) rfl rfl rfl ?_
          refine kw_iload (pc := 25) (i := 14) (k := 0) (n := 4) rfl rfl ?_
          refine kw_iload_n (pc := 27) (i := 15) (k := 4) (n := 2) rfl rfl rfl ?_
          refine kw_callV (pc := 28) (i := 16) (Y := mX8_pullOf) (a := 0) (As := [.int x1, .int w]) (st := [.int x2]) kw_hE rfl rfl lvX8_189 arX8_pullOf (c_X8_pullOf_0 l T hT0 hT1 σ hI x1 w (by first | omega | decide) (by first | omega | decide)) (by decide) (Nat.le_of_ble_eq_true rfl) rfl (fun v S20 p19 => ?_)
          obtain ⟨e23, z22, rfl, ef21⟩ := p19
          rw [e23]
          replace hF := kf_le ef21 hF
          have r_z22 := kw_rng z22
          show kw_AW l 3 kw_E0 KM mX8_turnBy (p_X8_turnBy_0 T σ s w) 31 [(4, .int x1), (3, .int x2), (0, .ref 0), (1, .int s), (2, .int w)] [.int z22, .int x2] σ
          refine kw_aload_n (pc := 31) (i := 17) (k := 2) (n := 0) rfl rfl rfl ?_
          refine kw_get (pc := 32) (i := 18) (v := .ref 9) rfl rfl rfl lkX8_42 (fun _ => rfl) ?_
          refine kw_iload (pc := 35) (i := 19) (k := 0) (n := 4) rfl rfl ?_
          refine kw_iald (pc := 37) (i := 20) (n := 6) rfl rfl (by omega) (by omega) (fun z24 e_z24 => ?_)
          replace hF := kf_le e_z24 hF
          have t_z24 := congrArg Int32.toInt e_z24
          have r_z24 := kw_rng z24
          refine kw_imul (pc := 38) (i := 21) rfl (fun z25 e_z25 t_z25 => ?_)
          replace hF := kf_le e_z25 hF
          refine kw_goto (pc := 39) (i := 22) (tgt := 43) rfl rfl ?_
          refine kw_iadd (pc := 43) (i := 24) rfl (fun z26 e_z26 t_z26 => ?_)
          replace hF := kf_le e_z26 hF
          first | (have u_z26 : z26.toInt = x2.toInt + z25.toInt := (by omega); clear t_z26) | skip
          refine kw_istore_n (pc := 44) (i := 25) (n := 3) (lv' := [(3, .int z26), (4, .int x1), (0, .ref 0), (1, .int s), (2, .int w)]) rfl rfl (by decide) rfl ?_
          refine kw_iinc' (pc := 45) (i := 26) (k := 1) (fun z => [(4, .int z), (3, .int z26), (0, .ref 0), (1, .int s), (2, .int w)]) rfl rfl (by decide) rfl (fun _ => rfl) (fun z27 e_z27 t_z27 => ?_)
          replace hF := kf_le e_z27 hF
          first | (have u_z27 : z27.toInt = x1.toInt + 1 := (by omega); clear t_z27) | skip
          refine kw_goto (pc := 48) (i := 27) (tgt := 5) rfl rfl ?_
          refine kw_sub (lv' := [(4, .int z27), (3, .int z26), (0, .ref 0), (1, .int s), (2, .int w)]) [0, 1, 2, 3, 4] rfl ?_
          exact ih4 z27 z26 (by omega) hF (by omega)
  exact L3 _ 0 0 (by omega) hF (Nat.lt_succ_self _)
noncomputable def l_X8_linenOf_0_4 (a1 : Int32) (S : kw_S) : Nat → Int32 → Int32 → Int32
  | 0, _, _ => 0
  | n + 1, x2, x3 => if x3.toInt < (S.1 0 10).toInt then (kf_l (f_X8_has S a1 x3) fun z1 => if z1.toInt = 0 then (kf_l (x2 + (0 : Int32)) fun z2 => kf_l (x3 + Int32.ofInt 1) fun z3 => l_X8_linenOf_0_4 a1 S n z2 z3) else (kf_l (S.1 11 x3.toNatClampNeg) fun z4 => kf_l (x2 + z4) fun z5 => kf_l (x3 + Int32.ofInt 1) fun z6 => l_X8_linenOf_0_4 a1 S n z5 z6)) else (x2)
theorem l_X8_linenOf_0_4_s (a1 : Int32) (S : kw_S) (n : Nat) (x2 : Int32) (x3 : Int32) : l_X8_linenOf_0_4 a1 S (n + 1) x2 x3 = if x3.toInt < (S.1 0 10).toInt then (kf_l (f_X8_has S a1 x3) fun z1 => if z1.toInt = 0 then (kf_l (x2 + (0 : Int32)) fun z2 => kf_l (x3 + Int32.ofInt 1) fun z3 => l_X8_linenOf_0_4 a1 S n z2 z3) else (kf_l (S.1 11 x3.toNatClampNeg) fun z4 => kf_l (x2 + z4) fun z5 => kf_l (x3 + Int32.ofInt 1) fun z6 => l_X8_linenOf_0_4 a1 S n z5 z6)) else (x2) := rfl
noncomputable def f_X8_linenOf_0 (σ : kw_S) (s : Int32) : Int32 := l_X8_linenOf_0_4 s σ ((7 - (0 : Int32).toInt).toNat + 1) (0 : Int32) (0 : Int32)
theorem f_X8_linenOf_0_u (σ : kw_S) (s : Int32) : f_X8_linenOf_0 σ s = l_X8_linenOf_0_4 s σ ((7 - (0 : Int32).toInt).toNat + 1) (0 : Int32) (0 : Int32) := rfl
abbrev p_X8_linenOf_0 (T : Int) (σ : kw_S) (s : Int32) : Option Value → kw_S → Prop := fun vv σ' => σ' = σ ∧ ∃ r : Int32, vv = some (.int r) ∧ r = f_X8_linenOf_0 σ s
set_option maxRecDepth 100000 in
set_option maxHeartbeats 4000000 in
theorem c_X8_linenOf_0 (l : Launch) (T : Int) (hT0 : 0 ≤ T) (hT1 : T ≤ 3000) (σ : kw_S) (hI : kw_I (bM T) σ) (s : Int32) : kw_Met l 2 KM mX8_linenOf [.ref 0, .int s] σ (p_X8_linenOf_0 T σ s) := by
  have r_s := kw_rng s
  have hF := (f_X8_linenOf_0_u σ s).symm
  have q_0 : (0 : Int32).toInt = 0 := rfl
  refine kw_Met.of (by decide) rfl tX8_linenOf (Nat.le_of_ble_eq_true rfl) ?_
  show kw_AW l 2 kw_E0 KM mX8_linenOf (p_X8_linenOf_0 T σ s) 0 [(0, .ref 0), (1, .int s)] [] σ
  refine kw_iconst (pc := 0) (i := 0) (v := 0) rfl rfl ?_
  refine kw_istore_n (pc := 1) (i := 1) (n := 2) (lv' := [(2, .int 0), (0, .ref 0), (1, .int s)]) rfl rfl (by decide) rfl ?_
  refine kw_iconst (pc := 2) (i := 2) (v := 0) rfl rfl ?_
  refine kw_istore_n (pc := 3) (i := 3) (n := 3) (lv' := [(3, .int 0), (2, .int 0), (0, .ref 0), (1, .int s)]) rfl rfl (by decide) rfl ?_
  have L3 : ∀ (n7 : Nat) (x1 : Int32) (x2 : Int32), 0 ≤ x1.toInt → l_X8_linenOf_0_4 s σ n7 x2 x1 = (f_X8_linenOf_0 σ s) → (7 - x1.toInt).toNat < n7 → kw_AW l 2 kw_E0 KM mX8_linenOf (p_X8_linenOf_0 T σ s) 4 [(3, .int x1), (2, .int x2), (0, .ref 0), (1, .int s)] [] σ := by
    intro n7
    induction n7 with
    | zero => intro x1 x2 v5 hF m6; exact absurd m6 (Nat.not_lt_zero _)
    | succ n7 ih4 =>
      intro x1 x2 v5 hF m6
      replace hF := kf_st (l_X8_linenOf_0_4_s _ _ _ _ _) hF
      have r_x1 := kw_rng x1
      have r_x2 := kw_rng x2
      refine kw_iload_n (pc := 4) (i := 4) (k := 0) (n := 3) rfl rfl rfl ?_
      refine kw_aload_n (pc := 5) (i := 5) (k := 2) (n := 0) rfl rfl rfl ?_
      refine kw_get (pc := 6) (i := 6) (v := .int (σ.1 0 10)) rfl rfl rfl lkX8_163 (fun _ => rfl) ?_
      have b8 : 0 ≤ (σ.1 0 10).toInt ∧ (σ.1 0 10).toInt ≤ 6 := hI 0 10
      refine kw_icmp_ge (pc := 9) (i := 7) (tgt := 39) rfl rfl (fun c9 => ?_) (fun c9 => ?_)
      · replace hF := kf_nl c9 hF
        refine kw_iload_n (pc := 39) (i := 23) (k := 1) (n := 2) rfl rfl rfl ?_
        exact kw_ireturn (pc := 40) (i := 24) (ty := .int) rfl rfl rfl ⟨rfl, _, rfl, hF⟩
      · replace hF := kf_p c9 hF
        refine kw_iload_n (pc := 12) (i := 8) (k := 1) (n := 2) rfl rfl rfl ?_
        refine kw_iload_n (pc := 13) (i := 9) (k := 3) (n := 1) rfl rfl rfl ?_
        refine kw_iload_n (pc := 14) (i := 10) (k := 0) (n := 3) rfl rfl rfl ?_
        refine kw_callS (pc := 15) (i := 11) (Y := mX8_has) (As := [.int s, .int x1]) (st := [.int x2]) kw_hE rfl lsX8_185 arX8_has (c_X8_has l T hT0 hT1 σ hI s x1 ) (by decide) (Nat.le_of_ble_eq_true rfl) rfl (fun v S11 p10 => ?_)
        obtain ⟨e15, z14, rfl, f12, ef13⟩ := p10
        rw [e15]
        replace hF := kf_le ef13 hF
        have r_z14 := kw_rng z14
        show kw_AW l 2 kw_E0 KM mX8_linenOf (p_X8_linenOf_0 T σ s) 18 [(3, .int x1), (2, .int x2), (0, .ref 0), (1, .int s)] [.int z14, .int x2] σ
        refine kw_if_eq (pc := 18) (i := 12) (tgt := 30) rfl rfl (fun c16 => ?_) (fun c16 => ?_)
        · replace hF := kf_p c16 hF
          refine kw_iconst (pc := 30) (i := 18) (v := 0) rfl rfl ?_
          refine kw_iadd (pc := 31) (i := 19) rfl (fun z17 e_z17 t_z17 => ?_)
          replace hF := kf_le e_z17 hF
          first | (have u_z17 : z17.toInt = x2.toInt + 0 := (by omega); clear t_z17) | skip
          refine kw_istore_n (pc := 32) (i := 20) (n := 2) (lv' := [(2, .int z17), (3, .int x1), (0, .ref 0), (1, .int s)]) rfl rfl (by decide) rfl ?_
          refine kw_iinc' (pc := 33) (i := 21) (k := 1) (fun z => [(3, .int z), (2, .int z17), (0, .ref 0), (1, .int s)]) rfl rfl (by decide) rfl (fun _ => rfl) (fun z18 e_z18 t_z18 => ?_)
          replace hF := kf_le e_z18 hF
          first | (have u_z18 : z18.toInt = x1.toInt + 1 := (by omega); clear t_z18) | skip
          refine kw_goto (pc := 36) (i := 22) (tgt := 4) rfl rfl ?_
          refine kw_sub (lv' := [(3, .int z18), (2, .int z17), (0, .ref 0), (1, .int s)]) [0, 1, 2, 3] rfl ?_
          exact ih4 z18 z17 (by omega) hF (by omega)
        · replace hF := kf_n c16 hF
          refine kw_aload_n (pc := 21) (i := 13) (k := 2) (n := 0) rfl rfl rfl ?_
          refine kw_get (pc := 22) (i := 14) (v := .ref 11) rfl rfl rfl lkX8_48 (fun _ => rfl) ?_
          refine kw_iload_n (pc := 25) (i := 15) (k := 0) (n := 3) rfl rfl rfl ?_
          refine kw_iald (pc := 26) (i := 16) (n := 6) rfl rfl (by omega) (by omega) (fun z19 e_z19 => ?_)
          replace hF := kf_le e_z19 hF
          have t_z19 := congrArg Int32.toInt e_z19
          have r_z19 := kw_rng z19
          refine kw_goto (pc := 27) (i := 17) (tgt := 31) rfl rfl ?_
          refine kw_iadd (pc := 31) (i := 19) rfl (fun z20 e_z20 t_z20 => ?_)
          replace hF := kf_le e_z20 hF
          first | (have u_z20 : z20.toInt = x2.toInt + z19.toInt := (by omega); clear t_z20) | skip
          refine kw_istore_n (pc := 32) (i := 20) (n := 2) (lv' := [(2, .int z20), (3, .int x1), (0, .ref 0), (1, .int s)]) rfl rfl (by decide) rfl ?_
          refine kw_iinc' (pc := 33) (i := 21) (k := 1) (fun z => [(3, .int z), (2, .int z20), (0, .ref 0), (1, .int s)]) rfl rfl (by decide) rfl (fun _ => rfl) (fun z21 e_z21 t_z21 => ?_)
          replace hF := kf_le e_z21 hF
          first | (have u_z21 : z21.toInt = x1.toInt + 1 := (by omega); clear t_z21) | skip
          refine kw_goto (pc := 36) (i := 22) (tgt := 4) rfl rfl ?_
          refine kw_sub (lv' := [(3, .int z21), (2, .int z20), (0, .ref 0), (1, .int s)]) [0, 1, 2, 3] rfl ?_
          exact ih4 z21 z20 (by omega) hF (by omega)
  exact L3 _ 0 0 (by omega) hF (Nat.lt_succ_self _)
noncomputable def l_X8_bits_4 (a0 : Int32) (S : kw_S) : Nat → Int32 → Int32 → Int32
  | 0, _, _ => 0
  | n + 1, x1, x2 => if x2.toInt < (6 : Int32).toInt then (kf_l (a0 >>> (x2 &&& 31)) fun z1 => kf_l (z1 &&& (1 : Int32)) fun z2 => kf_l (x1 + z2) fun z3 => kf_l (x2 + Int32.ofInt 1) fun z4 => l_X8_bits_4 a0 S n z3 z4) else (x1)
theorem l_X8_bits_4_s (a0 : Int32) (S : kw_S) (n : Nat) (x1 : Int32) (x2 : Int32) : l_X8_bits_4 a0 S (n + 1) x1 x2 = if x2.toInt < (6 : Int32).toInt then (kf_l (a0 >>> (x2 &&& 31)) fun z1 => kf_l (z1 &&& (1 : Int32)) fun z2 => kf_l (x1 + z2) fun z3 => kf_l (x2 + Int32.ofInt 1) fun z4 => l_X8_bits_4 a0 S n z3 z4) else (x1) := rfl
noncomputable def f_X8_bits (σ : kw_S) (s : Int32) : Int32 := l_X8_bits_4 s σ ((7 - (0 : Int32).toInt).toNat + 1) (0 : Int32) (0 : Int32)
theorem f_X8_bits_u (σ : kw_S) (s : Int32) : f_X8_bits σ s = l_X8_bits_4 s σ ((7 - (0 : Int32).toInt).toNat + 1) (0 : Int32) (0 : Int32) := rfl
abbrev p_X8_bits (T : Int) (σ : kw_S) (s : Int32) : Option Value → kw_S → Prop := fun vv σ' => σ' = σ ∧ ∃ r : Int32, vv = some (.int r) ∧ r = f_X8_bits σ s
set_option maxRecDepth 100000 in
set_option maxHeartbeats 4000000 in
theorem c_X8_bits (l : Launch) (T : Int) (hT0 : 0 ≤ T) (hT1 : T ≤ 3000) (σ : kw_S) (hI : kw_I (bM T) σ) (s : Int32) : kw_Met l 1 KM mX8_bits [.int s] σ (p_X8_bits T σ s) := by
  have r_s := kw_rng s
  have hF := (f_X8_bits_u σ s).symm
  have q_0 : (0 : Int32).toInt = 0 := rfl
  have q_1 : (1 : Int32).toInt = 1 := rfl
  have q_6 : (6 : Int32).toInt = 6 := rfl
  refine kw_Met.of (by decide) rfl tX8_bits (Nat.le_of_ble_eq_true rfl) ?_
  show kw_AW l 1 kw_E0 KM mX8_bits (p_X8_bits T σ s) 0 [(0, .int s)] [] σ
  refine kw_iconst (pc := 0) (i := 0) (v := 0) rfl rfl ?_
  refine kw_istore_n (pc := 1) (i := 1) (n := 1) (lv' := [(1, .int 0), (0, .int s)]) rfl rfl (by decide) rfl ?_
  refine kw_iconst (pc := 2) (i := 2) (v := 0) rfl rfl ?_
  refine kw_istore_n (pc := 3) (i := 3) (n := 2) (lv' := [(2, .int 0), (1, .int 0), (0, .int s)]) rfl rfl (by decide) rfl ?_
  have L3 : ∀ (n7 : Nat) (x1 : Int32) (x2 : Int32), 0 ≤ x1.toInt → l_X8_bits_4 s σ n7 x2 x1 = (f_X8_bits σ s) → (7 - x1.toInt).toNat < n7 → kw_AW l 1 kw_E0 KM mX8_bits (p_X8_bits T σ s) 4 [(2, .int x1), (1, .int x2), (0, .int s)] [] σ := by
    intro n7
    induction n7 with
    | zero => intro x1 x2 v5 hF m6; exact absurd m6 (Nat.not_lt_zero _)
    | succ n7 ih4 =>
      intro x1 x2 v5 hF m6
      replace hF := kf_st (l_X8_bits_4_s _ _ _ _ _) hF
      have r_x1 := kw_rng x1
      have r_x2 := kw_rng x2
      refine kw_iload_n (pc := 4) (i := 4) (k := 0) (n := 2) rfl rfl rfl ?_
      refine kw_bipush (pc := 5) (i := 5) (v := 6) rfl rfl ?_
      refine kw_icmp_ge (pc := 7) (i := 6) (tgt := 24) rfl rfl (fun c8 => ?_) (fun c8 => ?_)
      · replace hF := kf_nl c8 hF
        refine kw_iload_n (pc := 24) (i := 17) (k := 1) (n := 1) rfl rfl rfl ?_
        exact kw_ireturn (pc := 25) (i := 18) (ty := .int) rfl rfl rfl ⟨rfl, _, rfl, hF⟩
      · replace hF := kf_p c8 hF
        refine kw_iload_n (pc := 10) (i := 7) (k := 1) (n := 1) rfl rfl rfl ?_
        refine kw_iload_n (pc := 11) (i := 8) (k := 2) (n := 0) rfl rfl rfl ?_
        refine kw_iload_n (pc := 12) (i := 9) (k := 0) (n := 2) rfl rfl rfl ?_
        refine kw_ishr (pc := 13) (i := 10) rfl (fun z9 e_z9 => ?_)
        have r_z9 := kw_rng z9
        replace hF := kf_le e_z9 hF
        refine kw_iconst (pc := 14) (i := 11) (v := 1) rfl rfl ?_
        refine kw_iand (pc := 15) (i := 12) rfl (fun z10 e_z10 => ?_)
        have r_z10 := kw_rng z10
        replace hF := kf_le e_z10 hF
        have t_z10 := kw_andI z9 (1 : Int32) z10 e_z10
        first | (replace t_z10 := t_z10 (by omega) (by omega)) | skip
        refine kw_iadd (pc := 16) (i := 13) rfl (fun z11 e_z11 t_z11 => ?_)
        replace hF := kf_le e_z11 hF
        first | (have u_z11 : z11.toInt = x2.toInt + z10.toInt := (by omega); clear t_z11) | skip
        refine kw_istore_n (pc := 17) (i := 14) (n := 1) (lv' := [(1, .int z11), (2, .int x1), (0, .int s)]) rfl rfl (by decide) rfl ?_
        refine kw_iinc' (pc := 18) (i := 15) (k := 1) (fun z => [(2, .int z), (1, .int z11), (0, .int s)]) rfl rfl (by decide) rfl (fun _ => rfl) (fun z12 e_z12 t_z12 => ?_)
        replace hF := kf_le e_z12 hF
        first | (have u_z12 : z12.toInt = x1.toInt + 1 := (by omega); clear t_z12) | skip
        refine kw_goto (pc := 21) (i := 16) (tgt := 4) rfl rfl ?_
        refine kw_sub (lv' := [(2, .int z12), (1, .int z11), (0, .int s)]) [0, 1, 2] rfl ?_
        exact ih4 z12 z11 (by omega) hF (by omega)
  exact L3 _ 0 0 (by omega) hF (Nat.lt_succ_self _)
end
