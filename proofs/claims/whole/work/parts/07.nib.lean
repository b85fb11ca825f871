/-- the first of m places from i on that is above 0 -/
def fz (s : Nat → Nat) (i : Nat) : Nat → Int
  | 0 => -1
  | m + 1 => if 0 < s i then (i : Int) else fz s (i + 1) m
theorem sg_X5_get : yX5_get.cls = RX5 ∧ yX5_get.cls ≠ "java/lang/invoke/MethodHandle" ∧ yX5_get.cls ≠ "java/lang/invoke/VarHandle" ∧ (parseMethodDescriptor yX5_get.desc).map (fun d => d.parameters.length) = some 2 := by decide +kernel
theorem sg_X5_with : yX5_with.cls = RX5 ∧ yX5_with.cls ≠ "java/lang/invoke/MethodHandle" ∧ yX5_with.cls ≠ "java/lang/invoke/VarHandle" ∧ (parseMethodDescriptor yX5_with.desc).map (fun d => d.parameters.length) = some 3 := by decide +kernel
theorem sg_X5_sum : yX5_sum.cls = RX5 ∧ yX5_sum.cls ≠ "java/lang/invoke/MethodHandle" ∧ yX5_sum.cls ≠ "java/lang/invoke/VarHandle" ∧ (parseMethodDescriptor yX5_sum.desc).map (fun d => d.parameters.length) = some 1 := by decide +kernel
theorem sg_X5_firstAboveZero : yX5_firstAboveZero.cls = RX5 ∧ yX5_firstAboveZero.cls ≠ "java/lang/invoke/MethodHandle" ∧ yX5_firstAboveZero.cls ≠ "java/lang/invoke/VarHandle" ∧ (parseMethodDescriptor yX5_firstAboveZero.desc).map (fun d => d.parameters.length) = some 1 := by decide +kernel
-- Nibbles.get
set_option maxRecDepth 20000 in
theorem c_X5_get (l : Launch) (D : va_G) (cI : ClassId) (W0 : va_W) (s : Nat → Nat) (p : Nat) (hs : ∀ p, s p < 16) (hp : p < 6) : Cn l D cI yX5_get cX5_get 2 (some .int) 0 0 0 [.int (zI (n6 s)), .int (zI (p : Int))] W0 (pI (s p : Int) W0) := by
  refine Cn.of [(0, .int (zI (n6 s))), (1, .int (zI (p : Int)))] (by decide +kernel) (Nat.le_of_ble_eq_true rfl) rfl (fun X hX hR => ?_)
  refine zg_iload_n hX 0 rfl dX5_get_0 rfl 1 rfl ?_
  refine zg_iconst hX dX5_get_1 2 rfl ?_
  refine zg_iload_n hX 1 rfl dX5_get_2 rfl 3 rfl ?_
  refine zg_imul hX dX5_get_3 4 rfl ?_
  refine zg_ishr hX ((nb s 6 / 2 ^ (4 * p) : Nat) : Int) (by rw [show (4 * (p : Int)) = ((4 * p : Nat) : Int) by omega]; exact zb_shr (by have := n6_lt hs; omega) (by omega)) dX5_get_4 5 rfl ?_
  refine zg_bipush hX dX5_get_5 7 rfl (by decide) ?_
  refine zg_iand hX (((nb s 6 / 2 ^ (4 * p)) % 2 ^ 4 : Nat) : Int) (zb_low 15 rfl) dX5_get_7 8 rfl ?_
  exact zg_iret hX hR (Nat.le_refl _) (Nat.le_refl _) rfl dX5_get_8 (pI_of (by rw [nb_get hs hp]))
-- Nibbles.with
set_option maxRecDepth 20000 in
theorem c_X5_with (l : Launch) (D : va_G) (cI : ClassId) (W0 : va_W) (s : Nat → Nat) (p v : Nat) (hs : ∀ p, s p < 16) (hp : p < 6) (hv : v < 16) : Cn l D cI yX5_with cX5_with 3 (some .int) 0 0 0 [.int (zI (n6 s)), .int (zI (p : Int)), .int (zI (v : Int))] W0 (pI (n6 (pu s p v)) W0) := by
  refine Cn.of [(0, .int (zI (n6 s))), (1, .int (zI (p : Int))), (2, .int (zI (v : Int)))] (by decide +kernel) (Nat.le_of_ble_eq_true rfl) rfl (fun X hX hR => ?_)
  refine zg_iload_n hX 0 rfl dX5_with_0 rfl 1 rfl ?_
  refine zg_bipush hX dX5_with_1 3 rfl (by decide) ?_
  refine zg_iconst hX dX5_with_3 4 rfl ?_
  refine zg_iload_n hX 1 rfl dX5_with_4 rfl 5 rfl ?_
  refine zg_imul hX dX5_with_5 6 rfl ?_
  refine zg_ishl hX ((zI 15 <<< (zI (4 * (p : Int)) &&& 31)).toInt) (zI_of _) dX5_with_6 7 rfl ?_
  refine zg_iconst hX dX5_with_7 8 rfl ?_
  refine zg_ixor hX ((zI ((zI 15 <<< (zI (4 * (p : Int)) &&& 31)).toInt) ^^^ zI (-1)).toInt) (zI_of _) dX5_with_8 9 rfl ?_
  refine zg_iand hX ((zI (n6 s) &&& zI ((zI ((zI 15 <<< (zI (4 * (p : Int)) &&& 31)).toInt) ^^^ zI (-1)).toInt)).toInt) (zI_of _) dX5_with_9 10 rfl ?_
  refine zg_iload_n hX 2 rfl dX5_with_10 rfl 11 rfl ?_
  refine zg_iconst hX dX5_with_11 12 rfl ?_
  refine zg_iload_n hX 1 rfl dX5_with_12 rfl 13 rfl ?_
  refine zg_imul hX dX5_with_13 14 rfl ?_
  refine zg_ishl hX ((zI (v : Int) <<< (zI (4 * (p : Int)) &&& 31)).toInt) (zI_of _) dX5_with_14 15 rfl ?_
  refine zg_ior hX (n6 (pu s p v)) (by simp only [zI_back]; exact zn_with hs hp hv) dX5_with_15 16 rfl ?_
  exact zg_iret hX hR (Nat.le_refl _) (Nat.le_refl _) rfl dX5_with_16 (pI_of rfl)
-- Nibbles.sum
set_option maxRecDepth 20000 in
theorem c_X5_sum (l : Launch) (D : va_G) (cI : ClassId) (W0 : va_W) (s : Nat → Nat) (hs : ∀ p, s p < 16) : Cn l D cI yX5_sum cX5_sum 3 (some .int) 1 0 0 [.int (zI (n6 s))] W0 (pI (su s 6 : Int) W0) := by
  refine Cn.of [(0, .int (zI (n6 s)))] (by decide +kernel) (Nat.le_of_ble_eq_true rfl) rfl (fun X hX hR => ?_)
  refine zg_iconst hX dX5_sum_0 1 rfl ?_
  refine zg_istore_n hX [(1, .int (zI 0)), (0, .int (zI (n6 s)))] dX5_sum_1 rfl (by decide) rfl 2 rfl ?_
  refine zg_iconst hX dX5_sum_2 3 rfl ?_
  refine zg_istore_n hX [(2, .int (zI 0)), (1, .int (zI 0)), (0, .int (zI (n6 s)))] dX5_sum_3 rfl (by decide) rfl 4 rfl ?_
  have L4 : ∀ (fuel : Nat) (i : Nat) (x4_1 : Int) (x4_2 : Int), (6 - i < fuel) → (i ≤ 6) → x4_1 = (su s i : Int) → x4_2 = (i : Int) → G X 3 0 0 W0 [(0, .int (zI (n6 s))), (1, .int (zI x4_1)), (2, .int (zI x4_2))] 4 [] := by
    intro fuel
    induction fuel with
    | zero =>
      intro i x4_1 x4_2 hm4
      exact absurd hm4 (Nat.not_lt_zero _)
    | succ fuel ih4 =>
      intro i x4_1 x4_2 hm4 hi ex4_1 ex4_2
      subst ex4_1
      subst ex4_2
      refine zg_iload_n hX 2 rfl dX5_sum_4 rfl 5 rfl ?_
      refine zg_bipush hX dX5_sum_5 7 rfl (by decide) ?_
      refine zg_icmp_ge hX (by omega) (by omega) dX5_sum_7 24 (by decide) 10 rfl (fun h7 => ?_) (fun h7 => ?_)
      · refine zg_iload_n hX 1 rfl dX5_sum_24 rfl 25 rfl ?_
        exact zg_iret hX hR (Nat.le_refl _) (Nat.le_refl _) rfl dX5_sum_25 (pI_of (by rw [show i = 6 by omega]))
      · refine zg_iload_n hX 1 rfl dX5_sum_10 rfl 11 rfl ?_
        refine zg_iload_n hX 0 rfl dX5_sum_11 rfl 12 rfl ?_
        refine zg_iload_n hX 2 rfl dX5_sum_12 rfl 13 rfl ?_
        refine zg_callSi (As := [.int (zI (n6 s)), .int (zI (i : Int))]) (rest := [.int (zI (su s i : Int))]) hX (c_X5_get l D cI _ s i hs (by omega)) mw_381 mw_363 mw_12 mw_364 sg_X5_get.2 (by decide) (by decide) (Nat.le_refl _) (Nat.le_refl _) rfl (Nat.le_of_ble_eq_true rfl) dX5_sum_13 16 rfl ?_
        refine zg_iadd hX dX5_sum_16 17 rfl ?_
        refine zg_istore_n hX [(1, .int (zI ((su s i : Int) + (s i : Int)))), (0, .int (zI (n6 s))), (2, .int (zI (i : Int)))] dX5_sum_17 rfl (by decide) rfl 18 rfl ?_
        refine zg_iinc hX [(2, .int (zI ((i : Int) + 1))), (1, .int (zI ((su s i : Int) + (s i : Int)))), (0, .int (zI (n6 s)))] 2 rfl dX5_sum_18 (by decide) rfl 21 rfl ?_
        refine zg_goto hX dX5_sum_21 4 (by decide) ?_
        exact zg_lv _ [2, 1, 0] rfl (ih4 (i + 1) _ _ (by omega) (by omega) (by simp only [su]; omega) (by omega))
  exact zg_lv _ [2, 1, 0] rfl (L4 _ 0 _ _ (Nat.lt_succ_self _) (by omega) (rfl) (rfl))
-- Nibbles.firstAboveZero
set_option maxRecDepth 20000 in
theorem c_X5_firstAboveZero (l : Launch) (D : va_G) (cI : ClassId) (W0 : va_W) (s : Nat → Nat) (hs : ∀ p, s p < 16) : Cn l D cI yX5_firstAboveZero cX5_firstAboveZero 2 (some .int) 1 0 0 [.int (zI (n6 s))] W0 (pI (fz s 0 6) W0) := by
  refine Cn.of [(0, .int (zI (n6 s)))] (by decide +kernel) (Nat.le_of_ble_eq_true rfl) rfl (fun X hX hR => ?_)
  refine zg_iconst hX dX5_firstAboveZero_0 1 rfl ?_
  refine zg_istore_n hX [(1, .int (zI 0)), (0, .int (zI (n6 s)))] dX5_firstAboveZero_1 rfl (by decide) rfl 2 rfl ?_
  have L2 : ∀ (fuel : Nat) (i : Nat) (x2_1 : Int), (6 - i < fuel) → (i ≤ 6) → (fz s 0 6 = fz s i (6 - i)) → x2_1 = (i : Int) → G X 2 0 0 W0 [(0, .int (zI (n6 s))), (1, .int (zI x2_1))] 2 [] := by
    intro fuel
    induction fuel with
    | zero =>
      intro i x2_1 hm2
      exact absurd hm2 (Nat.not_lt_zero _)
    | succ fuel ih2 =>
      intro i x2_1 hm2 hi hf ex2_1
      subst ex2_1
      refine zg_iload_n hX 1 rfl dX5_firstAboveZero_2 rfl 3 rfl ?_
      refine zg_bipush hX dX5_firstAboveZero_3 5 rfl (by decide) ?_
      refine zg_icmp_ge hX (by omega) (by omega) dX5_firstAboveZero_5 24 (by decide) 8 rfl (fun h5 => ?_) (fun h5 => ?_)
      · refine zg_iconst hX dX5_firstAboveZero_24 25 rfl ?_
        exact zg_iret hX hR (Nat.le_refl _) (Nat.le_refl _) rfl dX5_firstAboveZero_25 (pI_of (by rw [hf, show 6 - i = 0 by omega]; rfl))
      · refine zg_iload_n hX 0 rfl dX5_firstAboveZero_8 rfl 9 rfl ?_
        refine zg_iload_n hX 1 rfl dX5_firstAboveZero_9 rfl 10 rfl ?_
        refine zg_callSi (As := [.int (zI (n6 s)), .int (zI (i : Int))]) (rest := []) hX (c_X5_get l D cI _ s i hs (by omega)) mw_381 mw_363 mw_12 mw_364 sg_X5_get.2 (by decide) (by decide) (Nat.le_refl _) (Nat.le_refl _) rfl (Nat.le_of_ble_eq_true rfl) dX5_firstAboveZero_10 13 rfl ?_
        refine zg_if_le hX (by have := hs i; omega) dX5_firstAboveZero_13 18 (by decide) 16 rfl (fun h13 => ?_) (fun h13 => ?_)
        · refine zg_iinc hX [(1, .int (zI ((i : Int) + 1))), (0, .int (zI (n6 s)))] 1 rfl dX5_firstAboveZero_18 (by decide) rfl 21 rfl ?_
          refine zg_goto hX dX5_firstAboveZero_21 2 (by decide) ?_
          exact zg_lv _ [1, 0] rfl (ih2 (i + 1) _ (by omega) (by omega) (by rw [hf, show 6 - i = (6 - (i + 1)) + 1 by omega]; simp only [fz]; rw [if_neg (by omega)]) (by omega))
        · refine zg_iload_n hX 1 rfl dX5_firstAboveZero_16 rfl 17 rfl ?_
          exact zg_iret hX hR (Nat.le_refl _) (Nat.le_refl _) rfl dX5_firstAboveZero_17 (pI_of (by rw [hf, show 6 - i = (6 - (i + 1)) + 1 by omega]; simp only [fz]; rw [if_pos (by omega)]))
  exact zg_lv _ [1, 0] rfl (L2 _ 0 _ (Nat.lt_succ_self _) (by omega) (rfl) (rfl))
