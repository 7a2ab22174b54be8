/-! ===== the reference's bounds: its hours are at most T; notes and images by their places ===== -/
def bM (T : Int) : kw_B := fun a j => match a with
  | 0 => (match j with | 10 => (0, 6) | 11 => (1, 8) | 17 => (0, 60) | 18 => (0, 8) | 19 => (0, 6) | 22 => (0, T) | 25 => (0, 63) | 27 => (0, 40) | _ => (-2147483648, 2147483647))
  | 2 => (-9, 40)
  | 5 => (-9, 60)
  | 15 => if j % 10 = 0 then (0, T) else if j % 10 = 3 then (0, 63) else (-2147483648, 2147483647)
  | 17 => if j % 411 = 410 then (0, 40) else if j % 411 % 10 = 0 then (0, T) else if j % 411 % 10 = 3 then (0, 63) else (-2147483648, 2147483647)
  | _ => (-2147483648, 2147483647)
theorem kw_bM_mono {T T' : Int} (h : T ≤ T') (a j : Nat) : (bM T' a j).1 ≤ (bM T a j).1 ∧ (bM T a j).2 ≤ (bM T' a j).2 := by
  unfold bM
  split
  · split <;> (simp <;> try omega)
  · simp
  · simp
  · split
    · simp; exact h
    · simp
  · split
    · simp
    · split
      · simp; exact h
      · simp
  · simp
theorem kw_monoM {T T' : Int} (h : T ≤ T') {σ : kw_S} (hI : kw_I (bM T) σ) : kw_I (bM T') σ := fun a j => by
  have h1 := kw_bM_mono h a j
  have h2 := hI a j
  omega
theorem kw_rN {T : Int} {σ : kw_S} (hI : kw_I (bM T) σ) {x : Int32} (v : Int32) (hv : v = σ.1 15 x.toNatClampNeg) (h0 : 0 ≤ x.toInt) : (x.toInt % 10 = 0 → 0 ≤ v.toInt ∧ v.toInt ≤ T) ∧ (x.toInt % 10 = 3 → 0 ≤ v.toInt ∧ v.toInt ≤ 63) := by
  have hb := hI 15 x.toNatClampNeg
  have hc := kw_clampI h0
  subst hv
  refine ⟨fun h => ?_, fun h => ?_⟩
  · have e : bM T 15 x.toNatClampNeg = (0, T) := by
      show (if x.toNatClampNeg % 10 = 0 then _ else _) = _
      rw [if_pos (by omega)]
    rw [e] at hb; exact hb
  · have e : bM T 15 x.toNatClampNeg = (0, 63) := by
      show (if x.toNatClampNeg % 10 = 0 then _ else _) = _
      rw [if_neg (by omega), if_pos (by omega)]
    rw [e] at hb; exact hb
theorem kw_wN {T : Int} {σ : kw_S} (hI : kw_I (bM T) σ) {x : Int32} (v : Int32) (h0 : 0 ≤ x.toInt) (h1 : x.toInt % 10 = 0 → 0 ≤ v.toInt ∧ v.toInt ≤ T) (h2 : x.toInt % 10 = 3 → 0 ≤ v.toInt ∧ v.toInt ≤ 63) (_h3 : True) : kw_I (bM T) (kw_ui σ 15 x.toNatClampNeg v) := by
  have hc := kw_clampI h0
  have hr := kw_rng v
  have key : (bM T 15 x.toNatClampNeg).1 ≤ v.toInt ∧ v.toInt ≤ (bM T 15 x.toNatClampNeg).2 := by
    show (if x.toNatClampNeg % 10 = 0 then _ else _ : Int × Int).1 ≤ _ ∧ _ ≤ (if x.toNatClampNeg % 10 = 0 then _ else _ : Int × Int).2
    by_cases a : x.toNatClampNeg % 10 = 0
    · rw [if_pos a]; exact h1 (by omega)
    · rw [if_neg a]
      by_cases b : x.toNatClampNeg % 10 = 3
      · rw [if_pos b]; exact h2 (by omega)
      · rw [if_neg b]; exact ⟨by show -2147483648 ≤ _; omega, by show _ ≤ 2147483647; omega⟩
  exact kw_I_ui hI key.1 key.2
theorem kw_rI {T : Int} {σ : kw_S} (hI : kw_I (bM T) σ) {x : Int32} (v : Int32) (hv : v = σ.1 17 x.toNatClampNeg) (h0 : 0 ≤ x.toInt) (m : Int) (hm : x.toInt % 411 = m) : (m = 410 → 0 ≤ v.toInt ∧ v.toInt ≤ 40) ∧ (m ≠ 410 → m % 10 = 0 → 0 ≤ v.toInt ∧ v.toInt ≤ T) ∧ (m ≠ 410 → m % 10 = 3 → 0 ≤ v.toInt ∧ v.toInt ≤ 63) := by
  have hb := hI 17 x.toNatClampNeg
  have hc := kw_clampI h0
  subst hv
  have hk : ((x.toNatClampNeg % 411 : Nat) : Int) = m := by omega
  have e : bM T 17 x.toNatClampNeg = (if x.toNatClampNeg % 411 = 410 then (0, 40) else if x.toNatClampNeg % 411 % 10 = 0 then (0, T) else if x.toNatClampNeg % 411 % 10 = 3 then (0, 63) else (-2147483648, 2147483647)) := rfl
  rw [e] at hb
  generalize x.toNatClampNeg % 411 = k at hk hb
  refine ⟨fun h => ?_, fun h h' => ?_, fun h h' => ?_⟩
  · rw [if_pos (by omega)] at hb; exact hb
  · rw [if_neg (by omega), if_pos (by omega)] at hb; exact hb
  · rw [if_neg (by omega), if_neg (by omega), if_pos (by omega)] at hb; exact hb
theorem kw_wI {T : Int} {σ : kw_S} (hI : kw_I (bM T) σ) {x : Int32} (v : Int32) (h0 : 0 ≤ x.toInt) (m : Int) (hm : x.toInt % 411 = m) (h1 : m = 410 → 0 ≤ v.toInt ∧ v.toInt ≤ 40) (h2 : m ≠ 410 → m % 10 = 0 → 0 ≤ v.toInt ∧ v.toInt ≤ T) (h3 : m ≠ 410 → m % 10 = 3 → 0 ≤ v.toInt ∧ v.toInt ≤ 63) : kw_I (bM T) (kw_ui σ 17 x.toNatClampNeg v) := by
  have hc := kw_clampI h0
  have hr := kw_rng v
  have hk : ((x.toNatClampNeg % 411 : Nat) : Int) = m := by omega
  have key : (bM T 17 x.toNatClampNeg).1 ≤ v.toInt ∧ v.toInt ≤ (bM T 17 x.toNatClampNeg).2 := by
    have e : bM T 17 x.toNatClampNeg = (if x.toNatClampNeg % 411 = 410 then (0, 40) else if x.toNatClampNeg % 411 % 10 = 0 then (0, T) else if x.toNatClampNeg % 411 % 10 = 3 then (0, 63) else (-2147483648, 2147483647)) := rfl
    rw [e]
    generalize x.toNatClampNeg % 411 = k at hk
    by_cases a : k = 410
    · rw [if_pos a]; exact h1 (by omega)
    · rw [if_neg a]
      by_cases b : k % 10 = 0
      · rw [if_pos b]; exact h2 (by omega) (by omega)
      · rw [if_neg b]
        by_cases c : k % 10 = 3
        · rw [if_pos c]; exact h3 (by omega) (by omega)
        · rw [if_neg c]; exact ⟨by show -2147483648 ≤ _; omega, by show _ ≤ 2147483647; omega⟩
  exact kw_I_ui hI key.1 key.2
theorem kw_nn {x : Int32} (h : 0 ≤ x.toInt) : ∃ a : Nat, a < 2 ^ 31 ∧ x = nI a := by
  have e0 : (0 : Int32).toInt = 0 := rfl
  exact nI_of (fun q => by have := Int32.lt_iff_toInt_lt.mp q; omega)
theorem kw_andI (x y z : Int32) (h : z = x &&& y) : 0 ≤ x.toInt → 0 ≤ y.toInt → 0 ≤ z.toInt ∧ z.toInt ≤ x.toInt ∧ z.toInt ≤ y.toInt := by
  intro hx hy
  obtain ⟨a, ha, rfl⟩ := kw_nn hx
  obtain ⟨b, hb, rfl⟩ := kw_nn hy
  have e : nI a &&& nI b = nI (a &&& b) := by
    apply Int32.toBitVec_inj.mp
    show BitVec.ofNat 32 a &&& BitVec.ofNat 32 b = BitVec.ofNat 32 (a &&& b)
    rw [BitVec.ofNat_and]
  rw [e] at h
  subst h
  have h1 : a &&& b ≤ a := Nat.and_le_left
  have h2 : a &&& b ≤ b := Nat.and_le_right
  rw [nI_toInt (by omega), nI_toInt ha, nI_toInt hb]
  omega
theorem kw_xor63 (x y z : Int32) (h : z = x ^^^ y) : 0 ≤ x.toInt → x.toInt ≤ 63 → 0 ≤ y.toInt → y.toInt ≤ 63 → 0 ≤ z.toInt ∧ z.toInt ≤ 63 := by
  intro hx hx' hy hy'
  obtain ⟨a, ha, rfl⟩ := kw_nn hx
  obtain ⟨b, hb, rfl⟩ := kw_nn hy
  rw [nI_toInt ha] at hx'
  rw [nI_toInt hb] at hy'
  have e : nI a ^^^ nI b = nI (a ^^^ b) := by
    apply Int32.toBitVec_inj.mp
    show BitVec.ofNat 32 a ^^^ BitVec.ofNat 32 b = BitVec.ofNat 32 (a ^^^ b)
    rw [BitVec.ofNat_xor]
  rw [e] at h
  subst h
  have h1 : a ^^^ b < 2 ^ 6 := Nat.xor_lt_two_pow (by omega) (by omega)
  rw [nI_toInt (by omega)]
  omega
theorem kw_shlm (y z : Int32) (h : z = (1 : Int32) <<< (y &&& 31)) : (0 ≤ y.toInt → y.toInt ≤ 6 → 1 ≤ z.toInt ∧ z.toInt ≤ 64) ∧ (0 ≤ y.toInt → y.toInt ≤ 5 → z.toInt ≤ 32) := by
  have key : ∀ a, a < 7 → 1 ≤ ((1 : Int32) <<< (nI a &&& 31)).toInt ∧ ((1 : Int32) <<< (nI a &&& 31)).toInt ≤ 64 ∧ (a ≤ 5 → ((1 : Int32) <<< (nI a &&& 31)).toInt ≤ 32) := by decide +kernel
  subst h
  refine ⟨fun h0 h1 => ?_, fun h0 h1 => ?_⟩
  · obtain ⟨a, ha, rfl⟩ := kw_nn h0
    rw [nI_toInt ha] at h1
    have := key a (by omega)
    exact ⟨this.1, this.2.1⟩
  · obtain ⟨a, ha, rfl⟩ := kw_nn h0
    rw [nI_toInt ha] at h1
    exact (key a (by omega)).2.2 (by omega)
theorem kw_laddI (x y z : Int64) (h : z = x + y) : z.toInt = (x.toInt + y.toInt + 9223372036854775808) % 18446744073709551616 - 9223372036854775808 := by rw [h, kw_addL]
theorem kw_lmulI (x y z : Int64) (h : z = x * y) : z.toInt = (x.toInt * y.toInt + 9223372036854775808) % 18446744073709551616 - 9223372036854775808 := by rw [h, Int64.toInt_mul, kw_bmL]
theorem kw_lremE (x y : Int64) : (x - x / y * y).toInt = x.toInt.tmod y.toInt := by
  have a := kw_rngL x
  rw [Int64.toInt_sub, Int64.toInt_mul, Int64.toInt_div, Int.bmod_mul_bmod, Int.sub_bmod_bmod, Int.mul_comm, ← Int.tmod_def, ← Int64.toInt_mod]
  exact Int.bmod_eq_of_le (by have := kw_rngL (x % y); omega) (by have := kw_rngL (x % y); omega)
theorem kw_lremI (x y z : Int64) (h : z = x - x / y * y) : (0 < y.toInt → z.toInt < y.toInt ∧ -y.toInt < z.toInt) ∧ (y.toInt < 0 → z.toInt < -y.toInt ∧ y.toInt < z.toInt) ∧ (0 ≤ x.toInt → 0 ≤ z.toInt) := by
  subst h
  rw [kw_lremE]
  generalize x.toInt = a
  generalize y.toInt = b
  refine ⟨fun h => ⟨?_, ?_⟩, fun h => ⟨?_, ?_⟩, fun h => Int.tmod_nonneg b h⟩
  · exact Int.tmod_lt_of_pos a h
  · have := Int.tmod_lt_of_pos (-a) h
    rw [Int.neg_tmod] at this
    omega
  · have := Int.tmod_lt_of_pos a (b := -b) (by omega)
    rw [Int.tmod_neg] at this
    exact this
  · have := Int.tmod_lt_of_pos (-a) (b := -b) (by omega)
    rw [Int.tmod_neg, Int.neg_tmod] at this
    omega
theorem kw_l2iI (x : Int64) (z : Int32) (h : z = x.toInt32) : -2147483648 ≤ x.toInt → x.toInt < 2147483648 → z.toInt = x.toInt := by
  intro h0 h1
  subst h
  rw [Int64.toInt_toInt32]
  exact Int.bmod_eq_of_le (by omega) (by omega)
def kw_p12 (k s : Int) : Prop := s = 12 ^ k.toNat
theorem kw_p120 : kw_p12 0 1 := rfl
theorem kw_p12B {k s : Int} (h : kw_p12 k s) (h0 : 0 ≤ k) (h1 : k ≤ 6) : 1 ≤ s ∧ s ≤ 2985984 := by
  unfold kw_p12 at h
  subst h
  have key : ∀ n : Nat, n < 7 → 1 ≤ (12 : Int) ^ n ∧ (12 : Int) ^ n ≤ 2985984 := by decide +kernel
  exact key k.toNat (by omega)
theorem kw_p12S {k s k' s' : Int} (h : kw_p12 k s) (h0 : 0 ≤ k) (h1 : k' = k + 1) (h2 : s' = s * 12) : kw_p12 k' s' := by
  unfold kw_p12 at h ⊢
  subst h1; subst h2; subst h
  rw [show (k + 1).toNat = k.toNat + 1 by omega, Int.pow_succ]
