def bt (x : Int32) (i : Nat) : Bool := x.toBitVec.getLsbD i
theorem b_ext {x y : Int32} (h : ∀ i, i < 32 → bt x i = bt y i) : x = y := Int32.toBitVec_inj.mp (BitVec.eq_of_getLsbD_eq (fun i hi => h i hi))
theorem b_or (x y : Int32) (i : Nat) : bt (x ||| y) i = (bt x i || bt y i) := by unfold bt; rw [Int32.toBitVec_or, BitVec.getLsbD_or]
theorem b_and (x y : Int32) (i : Nat) : bt (x &&& y) i = (bt x i && bt y i) := by unfold bt; rw [Int32.toBitVec_and, BitVec.getLsbD_and]
theorem b_xor (x y : Int32) (i : Nat) : bt (x ^^^ y) i = (bt x i ^^ bt y i) := by unfold bt; rw [Int32.toBitVec_xor, BitVec.getLsbD_xor]
theorem b_big {x : Int32} {i : Nat} (h : 32 ≤ i) : bt x i = false := BitVec.getLsbD_of_ge _ _ h
theorem b_m1 : ∀ i, i < 32 → bt (-1) i = true := by decide +kernel
theorem b_0 (i : Nat) : bt 0 i = false := BitVec.getLsbD_zero
theorem s_l : ∀ n, n < 32 → ((nI n &&& 31).toBitVec.smod 32).toNat = n := by decide +kernel
theorem b_shl (n : Nat) (hn : n < 32) (x : Int32) {i : Nat} (hi : i < 32) : bt (x <<< (nI n &&& 31)) i = (decide (n ≤ i) && bt x (i - n)) := by
  unfold bt
  rw [Int32.toBitVec_shiftLeft]
  show (x.toBitVec <<< ((nI n &&& 31).toBitVec.smod 32).toNat).getLsbD i = _
  rw [s_l n hn, BitVec.getLsbD_shiftLeft]
  rcases Nat.lt_or_ge i n with h | h
  · simp [h, Nat.not_le.mpr h]
  · simp [hi, h, Nat.not_lt.mpr h]
theorem b_sshr (n : Nat) (hn : n < 32) (x : Int32) {i : Nat} (hi : i < 32) : bt (x >>> (nI n &&& 31)) i = if n + i < 32 then bt x (n + i) else bt x 31 := by
  unfold bt
  rw [Int32.toBitVec_shiftRight]
  show (x.toBitVec.sshiftRight ((nI n &&& 31).toBitVec.smod 32).toNat).getLsbD i = _
  rw [s_l n hn, BitVec.getLsbD_sshiftRight, BitVec.msb_eq_getLsbD_last]
  simp [hi]
-- ints by their bits
theorem zN (n : Nat) : zI (n : Int) = nI n := rfl
theorem zI_back (x : Int32) : zI x.toInt = x := Int32.ofInt_toInt x
theorem bt_N {n i : Nat} (hi : i < 32) : bt (zI (n : Int)) i = n.testBit i := by
  show (BitVec.ofNat 32 n).getLsbD i = _
  rw [BitVec.getLsbD_ofNat]
  simp [hi]
-- a mask: the first k of w, as bits
def mk (w : Nat → Bool) : Nat → Nat
  | 0 => 0
  | k + 1 => mk w k + (if w k then 2 ^ k else 0)
theorem mk_lt (w : Nat → Bool) (k : Nat) : mk w k < 2 ^ k := by
  induction k with
  | zero => simp [mk]
  | succ k ih =>
    have h2 : 2 ^ (k + 1) = 2 ^ k + 2 ^ k := by rw [Nat.pow_succ]; omega
    simp only [mk]
    split <;> omega
theorem mk_bit (w : Nat → Bool) (k i : Nat) : (mk w k).testBit i = (decide (i < k) && w i) := by
  induction k with
  | zero => simp [mk]
  | succ k ih =>
    have e : mk w (k + 1) = 2 ^ k * (if w k then 1 else 0) + mk w k := by
      simp only [mk]
      split <;> simp [Nat.add_comm]
    rw [e, Nat.testBit_two_pow_mul_add _ (mk_lt w k), ih]
    by_cases h : i < k
    · simp [h, Nat.lt_succ_of_lt h]
    · rw [if_neg h]
      by_cases h2 : i = k
      · subst h2
        cases hw : w i <;> simp [hw]
      · have h3 : ¬ i < k + 1 := by omega
        simp only [h3, decide_false, Bool.false_and]
        have h4 : i - k ≠ 0 := by omega
        cases hw : w k
        · simp
        · simp only [if_true]
          exact Nat.testBit_lt_two_pow (by
            have : 2 ^ 1 ≤ 2 ^ (i - k) := Nat.pow_le_pow_right (by omega) (by omega)
            omega)
theorem mk_ext {w w2 : Nat → Bool} {k : Nat} (h : ∀ i, i < k → w i = w2 i) : mk w k = mk w2 k := by
  induction k with
  | zero => rfl
  | succ k ih =>
    simp only [mk]
    rw [ih (fun i hi => h i (by omega)), h k (by omega)]
theorem mk_more {w : Nat → Bool} {k : Nat} (j : Nat) (h : ∀ i, k ≤ i → w i = false) (hj : k ≤ j) : mk w j = mk w k := by
  induction j with
  | zero => rw [show k = 0 by omega]
  | succ j ih =>
    by_cases hk : k = j + 1
    · rw [hk]
    · simp only [mk]
      rw [ih (by omega), h j (by omega)]
      simp
theorem mk_zero {w : Nat → Bool} {k : Nat} : mk w k = 0 ↔ ∀ i, i < k → w i = false := by
  constructor
  · intro h i hi
    have h2 := mk_bit w k i
    rw [h] at h2
    simpa [hi] using h2.symm
  · intro h
    rw [mk_ext (w2 := fun _ => false) h]
    clear h
    induction k with
    | zero => rfl
    | succ k ih => simp only [mk]; rw [ih]; simp
theorem mk_rng (w : Nat → Bool) (k : Nat) (hk : k ≤ 12) : mk w k < 4096 := by
  have h1 := mk_lt w k
  have h2 : 2 ^ k ≤ 2 ^ 12 := Nat.pow_le_pow_right (by omega) hk
  omega
theorem zb_shr {n p : Nat} (hn : n < 2 ^ 31) (hp : p < 32) : zI (n : Int) >>> (zI (p : Int) &&& 31) = zI ((n / 2 ^ p : Nat) : Int) := pk_shrN hn _ p (s_l p hp)
theorem zb_shl1 {p : Nat} (hp : p < 31) : zI 1 <<< (zI (p : Int) &&& 31) = zI ((2 ^ p : Nat) : Int) :=
  (by decide +kernel : ∀ p : Nat, p < 31 → zI 1 <<< (zI (p : Int) &&& 31) = zI ((2 ^ p : Nat) : Int)) p hp
theorem zb_and1 (n : Nat) : zI (n : Int) &&& zI 1 = zI ((n % 2 : Nat) : Int) := by
  apply b_ext
  intro i hi
  rw [b_and, bt_N hi, show zI 1 = zI ((1 : Nat) : Int) from rfl, bt_N hi, bt_N hi, show n % 2 = n % 2 ^ 1 by rfl, Nat.testBit_mod_two_pow]
  by_cases h : i = 0
  · subst h; simp
  · have h1 : Nat.testBit 1 i = false := by
      have := Nat.testBit_two_pow_of_ne (n := 0) (m := i) (fun h2 => h h2.symm)
      simpa using this
    rw [h1]
    simp [h]
theorem zb_bit {w : Nat → Bool} {K p : Nat} (hp : p < K) : zI ((mk w K / 2 ^ p : Nat) : Int) &&& zI 1 = zI (b2 (w p)) := by
  rw [zb_and1]
  have h := mk_bit w K p
  rw [Nat.testBit_eq_decide_div_mod_eq] at h
  simp only [hp, decide_true, Bool.true_and] at h
  cases hw : w p
  · rw [hw] at h
    have h2 : ¬ (mk w K / 2 ^ p % 2 = 1) := of_decide_eq_false h
    rw [show mk w K / 2 ^ p % 2 = 0 by omega]; rfl
  · rw [hw] at h
    rw [of_decide_eq_true h]; rfl
theorem zb_or {w : Nat → Bool} {K p : Nat} (hp : p < K) (_hK : K ≤ 31) : zI ((mk w K : Nat) : Int) ||| zI ((2 ^ p : Nat) : Int) = zI ((mk (pu w p true) K : Nat) : Int) := by
  apply b_ext
  intro i hi
  rw [b_or, bt_N hi, bt_N hi, bt_N hi, mk_bit, mk_bit, Nat.testBit_two_pow, pu_at]
  by_cases h : i = p
  · subst h; simp [hp]
  · have h2 : ¬ p = i := fun h2 => h h2.symm
    simp [h, h2]
theorem zb_top {w : Nat → Bool} {k : Nat} (hk : k < 31) (hw : w k = true) : zI ((mk w k : Nat) : Int) ||| zI ((2 ^ k : Nat) : Int) = zI ((mk w (k + 1) : Nat) : Int) := by
  apply b_ext
  intro i hi
  rw [b_or, bt_N hi, bt_N hi, bt_N hi, mk_bit, mk_bit, Nat.testBit_two_pow]
  by_cases h : i = k
  · subst h; simp [hw]
  · have : (i < k + 1) = (i < k) := by simp; omega
    have h2 : ¬ k = i := fun h2 => h h2.symm
    simp [this, h2]
theorem mk_skip {w : Nat → Bool} {k : Nat} (hw : w k = false) : mk w (k + 1) = mk w k := by simp [mk, hw]
theorem zb_clr {w : Nat → Bool} {K p : Nat} (_hp : p < K) (_hK : K ≤ 31) : zI ((mk w K : Nat) : Int) &&& (zI ((2 ^ p : Nat) : Int) ^^^ zI (-1)) = zI ((mk (pu w p false) K : Nat) : Int) := by
  apply b_ext
  intro i hi
  rw [b_and, b_xor, show zI (-1) = -1 by decide, b_m1 i hi, bt_N hi, bt_N hi, bt_N hi, mk_bit, mk_bit, Nat.testBit_two_pow, pu_at]
  by_cases h : i = p
  · subst h; simp
  · have h2 : ¬ p = i := fun h2 => h h2.symm
    simp [h, h2]
theorem zb_low {n k : Nat} (m : Nat) (hm : m = 2 ^ k - 1) : zI (n : Int) &&& zI (m : Int) = zI ((n % 2 ^ k : Nat) : Int) := by
  subst hm
  apply b_ext
  intro i hi
  rw [b_and, bt_N hi, bt_N hi, bt_N hi, Nat.testBit_mod_two_pow, Nat.testBit_two_pow_sub_one]
  cases n.testBit i <;> simp
-- rows of numbers below 16 in one int
def nb (s : Nat → Nat) : Nat → Nat
  | 0 => 0
  | k + 1 => nb s k + s k * 2 ^ (4 * k)
theorem nb_lt {s : Nat → Nat} (hs : ∀ p, s p < 16) (k : Nat) : nb s k < 2 ^ (4 * k) := by
  induction k with
  | zero => simp [nb]
  | succ k ih =>
    simp only [nb]
    have h2 : 2 ^ (4 * (k + 1)) = 16 * 2 ^ (4 * k) := by rw [show 4 * (k + 1) = 4 * k + 4 by omega, Nat.pow_add]; omega
    have h3 : s k * 2 ^ (4 * k) ≤ 15 * 2 ^ (4 * k) := Nat.mul_le_mul_right _ (by have := hs k; omega)
    omega
theorem nb_bit {s : Nat → Nat} (hs : ∀ p, s p < 16) (k i : Nat) : (nb s k).testBit i = (decide (i < 4 * k) && (s (i / 4)).testBit (i % 4)) := by
  induction k with
  | zero => simp [nb]
  | succ k ih =>
    simp only [nb]
    rw [Nat.add_comm, Nat.mul_comm, Nat.testBit_two_pow_mul_add _ (nb_lt hs k), ih]
    by_cases h : i < 4 * k
    · have : i < 4 * (k + 1) := by omega
      simp [h, this]
    · rw [if_neg h]
      by_cases h2 : i < 4 * (k + 1)
      · have h3 : i / 4 = k := by omega
        have h4 : i - 4 * k = i % 4 := by omega
        simp [h2, h3, h4]
      · simp only [h2, decide_false, Bool.false_and]
        refine Nat.testBit_lt_two_pow ?_
        have h5 := hs k
        have h6 : 2 ^ 4 ≤ 2 ^ (i - 4 * k) := Nat.pow_le_pow_right (by omega) (by omega)
        omega
/-- six of them -/
abbrev n6 (s : Nat → Nat) : Int := ((nb s 6 : Nat) : Int)
theorem n6_lt {s : Nat → Nat} (hs : ∀ p, s p < 16) : nb s 6 < 16777216 := nb_lt hs 6
theorem nb_get {s : Nat → Nat} (hs : ∀ p, s p < 16) {p : Nat} (hp : p < 6) : nb s 6 / 2 ^ (4 * p) % 2 ^ 4 = s p := by
  apply Nat.eq_of_testBit_eq
  intro i
  rw [Nat.testBit_mod_two_pow, Nat.testBit_div_two_pow, nb_bit hs]
  by_cases h : i < 4
  · have h1 : i + 4 * p < 4 * 6 := by omega
    have h2 : (i + 4 * p) / 4 = p := by omega
    have h3 : (i + 4 * p) % 4 = i := by omega
    simp [h, h1, h2, h3]
  · have h2 : (s p).testBit i = false := Nat.testBit_lt_two_pow (by
      have h5 := hs p
      have h6 : 2 ^ 4 ≤ 2 ^ i := Nat.pow_le_pow_right (by omega) (by omega)
      omega)
    simp [h, h2]
theorem nb_ext {s s2 : Nat → Nat} {k : Nat} (h : ∀ i, i < k → s i = s2 i) : nb s k = nb s2 k := by
  induction k with
  | zero => rfl
  | succ k ih =>
    simp only [nb]
    rw [ih (fun i hi => h i (by omega)), h k (by omega)]
theorem nb_0 (k : Nat) : nb (fun _ => 0) k = 0 := by
  induction k with
  | zero => rfl
  | succ k ih => simp only [nb]; rw [ih]; simp
theorem pu_16 {s : Nat → Nat} (hs : ∀ p, s p < 16) (p v : Nat) (hv : v < 16) : ∀ j, pu s p v j < 16 := by
  intro j; rw [pu_at]; split
  · exact hv
  · exact hs j
theorem zn_15 : ∀ p : Nat, p < 6 → zI 15 <<< (zI (4 * (p : Int)) &&& 31) = zI ((15 * 2 ^ (4 * p) : Nat) : Int) := by decide +kernel
theorem zn_with {s : Nat → Nat} (hs : ∀ p, s p < 16) {p v : Nat} (hp : p < 6) (hv : v < 16) : (zI (n6 s) &&& ((zI 15 <<< (zI (4 * (p : Int)) &&& 31)) ^^^ zI (-1))) ||| (zI (v : Int) <<< (zI (4 * (p : Int)) &&& 31)) = zI (n6 (pu s p v)) := by
  rw [zn_15 p hp]
  have e4 : (4 * (p : Int)) = ((4 * p : Nat) : Int) := by omega
  apply b_ext
  intro i hi
  rw [b_or, b_and, b_xor, show zI (-1) = -1 by decide, b_m1 i hi, e4, show zI ((4 * p : Nat) : Int) = nI (4 * p) from rfl, b_shl (4 * p) (by omega) _ hi, bt_N hi, bt_N hi, bt_N hi, nb_bit hs, nb_bit (pu_16 hs p v hv), pu_at, show 15 * 2 ^ (4 * p) = 2 ^ (4 * p) * 15 + 0 by omega, Nat.testBit_two_pow_mul_add _ (Nat.two_pow_pos _)]
  by_cases h1 : i < 4 * p
  · have h2 : i < 4 * 6 := by omega
    have h3 : ¬ i / 4 = p := by omega
    simp [h1, h2, h3, Nat.not_le.mpr h1]
  · have h1' : 4 * p ≤ i := by omega
    by_cases h2 : i < 4 * p + 4
    · have h3 : i / 4 = p := by omega
      have h4 : i < 4 * 6 := by omega
      have h5 : i - 4 * p = i % 4 := by omega
      have h6 : Nat.testBit 15 (i % 4) = true := (by decide +kernel : ∀ j, j < 4 → Nat.testBit 15 j = true) (i % 4) (by omega)
      rw [bt_N (show i - 4 * p < 32 by omega)]
      simp [h1, h1', h3, h4, h5, h6]
    · have h3 : ¬ i / 4 = p := by omega
      have h5 : (15 : Nat).testBit (i - 4 * p) = false := Nat.testBit_lt_two_pow (by
        have h6 : 2 ^ 4 ≤ 2 ^ (i - 4 * p) := Nat.pow_le_pow_right (by omega) (by omega)
        omega)
      have h7 : v.testBit (i - 4 * p) = false := Nat.testBit_lt_two_pow (by
        have h6 : 2 ^ 4 ≤ 2 ^ (i - 4 * p) := Nat.pow_le_pow_right (by omega) (by omega)
        omega)
      rw [bt_N (show i - 4 * p < 32 by omega)]
      simp [h1, h3, h5, h7]
/-- the sum of the first k -/
def su (s : Nat → Nat) : Nat → Nat
  | 0 => 0
  | k + 1 => su s k + s k
theorem su_lt {s : Nat → Nat} {c : Nat} (hs : ∀ p, s p ≤ c) (k : Nat) : su s k ≤ c * k := by
  induction k with
  | zero => simp [su]
  | succ k ih => simp only [su]; have := hs k; rw [Nat.mul_succ]; omega
theorem su_ext {s s2 : Nat → Nat} {k : Nat} (h : ∀ i, i < k → s i = s2 i) : su s k = su s2 k := by
  induction k with
  | zero => rfl
  | succ k ih =>
    simp only [su]
    rw [ih (fun i hi => h i (by omega)), h k (by omega)]
theorem su_pu {s : Nat → Nat} {p v : Nat} (h0 : s p = 0) (k : Nat) : su (pu s p v) k = su s k + (if p < k then v else 0) := by
  induction k with
  | zero => simp [su]
  | succ k ih =>
    simp only [su]
    rw [ih, pu_at]
    by_cases h : k = p
    · subst h; rw [if_pos rfl, h0]; simp
    · rw [if_neg h]
      by_cases h2 : p < k
      · rw [if_pos h2, if_pos (by omega)]; omega
      · rw [if_neg h2, if_neg (by omega)]; omega
theorem su_0 (k : Nat) : su (fun _ => 0) k = 0 := by
  induction k with
  | zero => rfl
  | succ k ih => simp only [su]; rw [ih]
