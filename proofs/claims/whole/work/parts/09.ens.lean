theorem sg_X2_awakeOf : yX2_awakeOf.cls = RX2 ∧ yX2_awakeOf.cls ≠ "java/lang/invoke/MethodHandle" ∧ yX2_awakeOf.cls ≠ "java/lang/invoke/VarHandle" ∧ (parseMethodDescriptor yX2_awakeOf.desc).map (fun d => d.parameters.length) = some 1 := by decide +kernel
theorem sg_X2_heardWith : yX2_heardWith.cls = RX2 ∧ yX2_heardWith.cls ≠ "java/lang/invoke/MethodHandle" ∧ yX2_heardWith.cls ≠ "java/lang/invoke/VarHandle" ∧ (parseMethodDescriptor yX2_heardWith.desc).map (fun d => d.parameters.length) = some 1 := by decide +kernel
theorem sg_X2_leastTired : yX2_leastTired.cls = RX2 ∧ yX2_leastTired.cls ≠ "java/lang/invoke/MethodHandle" ∧ yX2_leastTired.cls ≠ "java/lang/invoke/VarHandle" ∧ (parseMethodDescriptor yX2_leastTired.desc).map (fun d => d.parameters.length) = some 2 := by decide +kernel
theorem sg_X2_sharesOf : yX2_sharesOf.cls = RX2 ∧ yX2_sharesOf.cls ≠ "java/lang/invoke/MethodHandle" ∧ yX2_sharesOf.cls ≠ "java/lang/invoke/VarHandle" ∧ (parseMethodDescriptor yX2_sharesOf.desc).map (fun d => d.parameters.length) = some 2 := by decide +kernel
theorem sg_X2_tiredBehind : yX2_tiredBehind.cls = RX2 ∧ yX2_tiredBehind.cls ≠ "java/lang/invoke/MethodHandle" ∧ yX2_tiredBehind.cls ≠ "java/lang/invoke/VarHandle" ∧ (parseMethodDescriptor yX2_tiredBehind.desc).map (fun d => d.parameters.length) = some 3 := by decide +kernel
theorem sg_X2_lossesFrom : yX2_lossesFrom.cls = RX2 ∧ yX2_lossesFrom.cls ≠ "java/lang/invoke/MethodHandle" ∧ yX2_lossesFrom.cls ≠ "java/lang/invoke/VarHandle" ∧ (parseMethodDescriptor yX2_lossesFrom.desc).map (fun d => d.parameters.length) = some 1 := by decide +kernel
-- Ensemble.awakeOf
set_option maxRecDepth 20000 in
theorem c_X2_awakeOf (l : Launch) (D : va_G) (cI : ClassId) (q : Nat → Nat) (f : Nat → Int) (r : Nat → Nat → Int) (ρ : Ru) (t : Nat → Nat) (hρ : RuOK ρ) (hc : cR f r ρ) (ht : tk ρ t) : Cn l D cI yX2_awakeOf cX2_awakeOf 4 (some .int) 1 0 0 [.ref (q 18), .int (zI (n6 t))] (cW cI q f r) (pI ((mk (aw ρ t) 4 : Nat) : Int) (cW cI q f r)) := by
  refine Cn.of [(0, .ref (q 18)), (1, .int (zI (n6 t)))] (by decide +kernel) (Nat.le_of_ble_eq_true rfl) rfl (fun X hX hR => ?_)
  have hl9 := hρ.1
  have hn4 := hρ.2.1
  have hb6 := hρ.2.2.2.1
  refine zg_iconst hX dX2_awakeOf_0 1 rfl ?_
  refine zg_istore_n hX [(2, .int (zI 0)), (0, .ref (q 18)), (1, .int (zI (n6 t)))] dX2_awakeOf_1 rfl (by decide) rfl 2 rfl ?_
  refine zg_iconst hX dX2_awakeOf_2 3 rfl ?_
  refine zg_istore_n hX [(3, .int (zI 0)), (2, .int (zI 0)), (0, .ref (q 18)), (1, .int (zI (n6 t)))] dX2_awakeOf_3 rfl (by decide) rfl 4 rfl ?_
  have L4 : ∀ (fuel : Nat) (i : Nat) (x4_2 : Int) (x4_3 : Int), (rn ρ - i < fuel) → (i ≤ rn ρ) → x4_2 = ((mk (aw ρ t) i : Nat) : Int) → x4_3 = (i : Int) → G X 4 0 0 (cW cI q f r) [(0, .ref (q 18)), (1, .int (zI (n6 t))), (2, .int (zI x4_2)), (3, .int (zI x4_3))] 4 [] := by
    intro fuel
    induction fuel with
    | zero =>
      intro i x4_2 x4_3 hm4
      exact absurd hm4 (Nat.not_lt_zero _)
    | succ fuel ih4 =>
      intro i x4_2 x4_3 hm4 hi ex4_2 ex4_3
      subst ex4_2
      subst ex4_3
      refine zg_iload_n hX 3 rfl dX2_awakeOf_4 rfl 5 rfl ?_
      refine zg_aload_n hX 0 rfl dX2_awakeOf_5 rfl 6 rfl ?_
      refine cg_18_1 hX mw_141 dX2_awakeOf_6 9 rfl ?_
      refine cg_6_6 hX mw_92 (rn ρ : Int) hc.2.2.1 dX2_awakeOf_9 12 rfl ?_
      refine zg_icmp_ge hX (by omega) (by omega) dX2_awakeOf_12 42 (by decide) 15 rfl (fun h12 => ?_) (fun h12 => ?_)
      · refine zg_iload_n hX 2 rfl dX2_awakeOf_42 rfl 43 rfl ?_
        exact zg_iret hX hR (Nat.le_refl _) (Nat.le_refl _) rfl dX2_awakeOf_43 (pI_of (by rw [mk_more 4 (k := rn ρ) (fun j hj => aw_out hj) hn4, show i = rn ρ by omega]))
      · have h9i := ht.1 i
        refine zg_iload_n hX 1 rfl dX2_awakeOf_15 rfl 16 rfl ?_
        refine zg_iload_n hX 3 rfl dX2_awakeOf_16 rfl 17 rfl ?_
        refine zg_callSi (As := [.int (zI (n6 t)), .int (zI (i : Int))]) (rest := []) hX (c_X5_get l D cI _ t i (tk_16 ht) (by omega)) mw_362 mw_363 mw_12 mw_364 sg_X5_get.2 (by decide) (by decide) (Nat.le_refl _) (Nat.le_refl _) rfl (Nat.le_of_ble_eq_true rfl) dX2_awakeOf_17 20 rfl ?_
        refine zg_aload_n hX 0 rfl dX2_awakeOf_20 rfl 21 rfl ?_
        refine cg_18_0 hX mw_140 dX2_awakeOf_21 24 rfl ?_
        refine cg_3_3 hX mw_62 (rl ρ : Int) hc.2.1 dX2_awakeOf_24 27 rfl ?_
        refine zg_icmp_ge hX (by omega) (by omega) dX2_awakeOf_27 36 (by decide) 30 rfl (fun h27 => ?_) (fun h27 => ?_)
        · refine zg_iinc hX [(3, .int (zI ((i : Int) + 1))), (0, .ref (q 18)), (1, .int (zI (n6 t))), (2, .int (zI ((mk (aw ρ t) i : Nat) : Int)))] 3 rfl dX2_awakeOf_36 (by decide) rfl 39 rfl ?_
          refine zg_goto hX dX2_awakeOf_39 4 (by decide) ?_
          exact zg_lv _ [1, 2, 3, 0] rfl (ih4 (i + 1) _ _ (by omega) (by omega) (by first | rfl | rw [mk_skip (w := aw ρ t) (k := i) (by simp [aw]; omega)]) (by omega))
        · refine zg_iload_n hX 2 rfl dX2_awakeOf_30 rfl 31 rfl ?_
          refine zg_iconst hX dX2_awakeOf_31 32 rfl ?_
          refine zg_iload_n hX 3 rfl dX2_awakeOf_32 rfl 33 rfl ?_
          refine zg_ishl hX ((2 ^ i : Nat) : Int) (zb_shl1 (by omega)) dX2_awakeOf_33 34 rfl ?_
          refine zg_ior hX ((mk (aw ρ t) (i + 1) : Nat) : Int) (zb_top (by omega) (by simp [aw]; omega)) dX2_awakeOf_34 35 rfl ?_
          refine zg_istore_n hX [(2, .int (zI ((mk (aw ρ t) (i + 1) : Nat) : Int))), (0, .ref (q 18)), (1, .int (zI (n6 t))), (3, .int (zI (i : Int)))] dX2_awakeOf_35 rfl (by decide) rfl 36 rfl ?_
          refine zg_iinc hX [(3, .int (zI ((i : Int) + 1))), (2, .int (zI ((mk (aw ρ t) (i + 1) : Nat) : Int))), (0, .ref (q 18)), (1, .int (zI (n6 t)))] 3 rfl dX2_awakeOf_36 (by decide) rfl 39 rfl ?_
          refine zg_goto hX dX2_awakeOf_39 4 (by decide) ?_
          exact zg_lv _ [2, 3, 1, 0] rfl (ih4 (i + 1) _ _ (by omega) (by omega) (by first | rfl | rw [mk_skip (w := aw ρ t) (k := i) (by simp [aw]; omega)]) (by omega))
  exact zg_lv _ [2, 3, 1, 0] rfl (L4 _ 0 _ _ (Nat.lt_succ_self _) (by omega) (rfl) (rfl))
-- Ensemble.heardWith
set_option maxRecDepth 20000 in
theorem c_X2_heardWith (l : Launch) (D : va_G) (cI : ClassId) (q : Nat → Nat) (f : Nat → Int) (r : Nat → Nat → Int) (ρ : Ru) (t : Nat → Nat) (hρ : RuOK ρ) (hc : cR f r ρ) : Cn l D cI yX2_heardWith cX2_heardWith 2 (some .int) 0 0 0 [.ref (q 18), .int (zI ((mk (aw ρ t) 4 : Nat) : Int))] (cW cI q f r) (pI ((mk (he ρ t) 4 : Nat) : Int) (cW cI q f r)) := by
  refine Cn.of [(0, .ref (q 18)), (1, .int (zI ((mk (aw ρ t) 4 : Nat) : Int)))] (by decide +kernel) (Nat.le_of_ble_eq_true rfl) rfl (fun X hX hR => ?_)
  have hl9 := hρ.1
  have hn4 := hρ.2.1
  have hb6 := hρ.2.2.2.1
  refine zg_iload_n hX 1 rfl dX2_heardWith_0 rfl 1 rfl ?_
  refine zg_aload_n hX 0 rfl dX2_heardWith_1 rfl 2 rfl ?_
  refine cg_18_1 hX mw_141 dX2_heardWith_2 5 rfl ?_
  refine cg_6_8 hX mw_101 ((mk (drm ρ) 4 : Nat) : Int) hc.2.2.2.2.1 dX2_heardWith_5 8 rfl ?_
  refine zg_iload_n hX 1 rfl dX2_heardWith_8 rfl 9 rfl ?_
  refine zg_iconst hX dX2_heardWith_9 10 rfl ?_
  refine zg_ishl hX ((zI ((mk (aw ρ t) 4 : Nat) : Int) <<< (zI 1 &&& 31)).toInt) (zI_of _) dX2_heardWith_10 11 rfl ?_
  refine zg_iload_n hX 1 rfl dX2_heardWith_11 rfl 12 rfl ?_
  refine zg_iconst hX dX2_heardWith_12 13 rfl ?_
  refine zg_ishr hX ((zI ((mk (aw ρ t) 4 : Nat) : Int) >>> (zI 1 &&& 31)).toInt) (zI_of _) dX2_heardWith_13 14 rfl ?_
  refine zg_ior hX ((zI ((zI ((mk (aw ρ t) 4 : Nat) : Int) <<< (zI 1 &&& 31)).toInt) ||| zI ((zI ((mk (aw ρ t) 4 : Nat) : Int) >>> (zI 1 &&& 31)).toInt)).toInt) (zI_of _) dX2_heardWith_14 15 rfl ?_
  refine zg_iand hX ((zI ((mk (drm ρ) 4 : Nat) : Int) &&& zI ((zI ((zI ((mk (aw ρ t) 4 : Nat) : Int) <<< (zI 1 &&& 31)).toInt) ||| zI ((zI ((mk (aw ρ t) 4 : Nat) : Int) >>> (zI 1 &&& 31)).toInt)).toInt)).toInt) (zI_of _) dX2_heardWith_15 16 rfl ?_
  refine zg_ior hX ((mk (he ρ t) 4 : Nat) : Int) (by simp only [zI_back]; exact hw_he t hn4) dX2_heardWith_16 17 rfl ?_
  exact zg_iret hX hR (Nat.le_refl _) (Nat.le_refl _) rfl dX2_heardWith_17 (pI_of rfl)
-- Ensemble.leastTired
set_option maxRecDepth 20000 in
theorem c_X2_leastTired (l : Launch) (D : va_G) (cI : ClassId) (W0 : va_W) (w : Nat → Bool) (t : Nat → Nat) (h9 : ∀ p, t p ≤ 9) : Cn l D cI yX2_leastTired cX2_leastTired 6 (some .int) 1 0 0 [.int (zI ((mk w 4 : Nat) : Int)), .int (zI (n6 t))] W0 (pI ((if nx w t 4 = 4 then 0 else nx w t 4 : Nat) : Int) W0) := by
  refine Cn.of [(0, .int (zI ((mk w 4 : Nat) : Int))), (1, .int (zI (n6 t)))] (by decide +kernel) (Nat.le_of_ble_eq_true rfl) rfl (fun X hX hR => ?_)
  refine zg_iconst hX dX2_leastTired_0 1 rfl ?_
  refine zg_istore_n hX [(2, .int (zI 0)), (0, .int (zI ((mk w 4 : Nat) : Int))), (1, .int (zI (n6 t)))] dX2_leastTired_1 rfl (by decide) rfl 2 rfl ?_
  refine zg_bipush hX dX2_leastTired_2 4 rfl (by decide) ?_
  refine zg_istore_n hX [(3, .int (zI 10)), (2, .int (zI 0)), (0, .int (zI ((mk w 4 : Nat) : Int))), (1, .int (zI (n6 t)))] dX2_leastTired_4 rfl (by decide) rfl 5 rfl ?_
  refine zg_iconst hX dX2_leastTired_5 6 rfl ?_
  refine zg_istore hX [(4, .int (zI 0)), (3, .int (zI 10)), (2, .int (zI 0)), (0, .int (zI ((mk w 4 : Nat) : Int))), (1, .int (zI (n6 t)))] dX2_leastTired_6 (by decide) rfl 8 rfl ?_
  have L8 : ∀ (fuel : Nat) (i : Nat) (x8_2 : Int) (x8_3 : Int) (x8_4 : Int), (4 - i < fuel) → (i ≤ 4) → x8_2 = ((if nx w t i = 4 then 0 else nx w t i : Nat) : Int) → x8_3 = ((if nx w t i = 4 then 10 else t (nx w t i) : Nat) : Int) → x8_4 = (i : Int) → G X 6 0 0 W0 [(0, .int (zI ((mk w 4 : Nat) : Int))), (1, .int (zI (n6 t))), (2, .int (zI x8_2)), (3, .int (zI x8_3)), (4, .int (zI x8_4))] 8 [] := by
    intro fuel
    induction fuel with
    | zero =>
      intro i x8_2 x8_3 x8_4 hm8
      exact absurd hm8 (Nat.not_lt_zero _)
    | succ fuel ih8 =>
      intro i x8_2 x8_3 x8_4 hm8 hi ex8_2 ex8_3 ex8_4
      subst ex8_2
      subst ex8_3
      subst ex8_4
      refine zg_iload hX 4 rfl dX2_leastTired_8 10 rfl ?_
      refine zg_iconst hX dX2_leastTired_10 11 rfl ?_
      refine zg_icmp_ge hX (by omega) (by omega) dX2_leastTired_11 50 (by decide) 14 rfl (fun h11 => ?_) (fun h11 => ?_)
      · refine zg_iload_n hX 2 rfl dX2_leastTired_50 rfl 51 rfl ?_
        exact zg_iret hX hR (Nat.le_refl _) (Nat.le_refl _) rfl dX2_leastTired_51 (pI_of (by rw [show i = 4 by omega]))
      · have h9i := h9 i
        refine zg_iload_n hX 1 rfl dX2_leastTired_14 rfl 15 rfl ?_
        refine zg_iload hX 4 rfl dX2_leastTired_15 17 rfl ?_
        refine zg_callSi (As := [.int (zI (n6 t)), .int (zI (i : Int))]) (rest := []) hX (c_X5_get l D cI _ t i (fun p => by have := h9 p; omega) (by omega)) mw_362 mw_363 mw_12 mw_364 sg_X5_get.2 (by decide) (by decide) (Nat.le_refl _) (Nat.le_refl _) rfl (Nat.le_of_ble_eq_true rfl) dX2_leastTired_17 20 rfl ?_
        refine zg_istore hX [(5, .int (zI (t i : Int))), (0, .int (zI ((mk w 4 : Nat) : Int))), (1, .int (zI (n6 t))), (2, .int (zI ((if nx w t i = 4 then 0 else nx w t i : Nat) : Int))), (3, .int (zI ((if nx w t i = 4 then 10 else t (nx w t i) : Nat) : Int))), (4, .int (zI (i : Int)))] dX2_leastTired_20 (by decide) rfl 22 rfl ?_
        refine zg_iload_n hX 1 rfl dX2_leastTired_22 rfl 23 rfl ?_
        refine zg_iload hX 5 rfl dX2_leastTired_23 25 rfl ?_
        refine zg_ishr hX ((mk w 4 / 2 ^ i : Nat) : Int) (zb_shr (by have := mk_rng w 4 (by omega); omega) (by omega)) dX2_leastTired_25 26 rfl ?_
        refine zg_iconst hX dX2_leastTired_26 27 rfl ?_
        refine zg_iand hX (b2 (w i)) (zb_bit (by omega)) dX2_leastTired_27 28 rfl ?_
        refine zg_iconst hX dX2_leastTired_28 29 rfl ?_
        refine zg_icb1_ne hX dX2_leastTired_29 44 (by decide) 32 rfl (fun h29 => ?_) (fun h29 => ?_)
        · have hnx : nx w t (i + 1) = nx w t i := by simp only [nx]; rw [if_neg (by simp [h29])]
          refine zg_iinc hX [(4, .int (zI ((i : Int) + 1))), (5, .int (zI (t i : Int))), (0, .int (zI ((mk w 4 : Nat) : Int))), (1, .int (zI (n6 t))), (2, .int (zI ((if nx w t i = 4 then 0 else nx w t i : Nat) : Int))), (3, .int (zI ((if nx w t i = 4 then 10 else t (nx w t i) : Nat) : Int)))] 5 rfl dX2_leastTired_44 (by decide) rfl 47 rfl ?_
          refine zg_goto hX dX2_leastTired_47 8 (by decide) ?_
          exact zg_lv _ [2, 3, 4, 5, 0] rfl (ih8 (i + 1) _ _ _ (by omega) (by omega) (by first | (rw [hnx]; done) | (rw [hnx, if_neg (by omega)])) (by first | (rw [hnx]; done) | (rw [hnx, if_neg (by omega)])) (by omega))
        · refine zg_iload hX 0 rfl dX2_leastTired_32 34 rfl ?_
          refine zg_iload_n hX 4 rfl dX2_leastTired_34 rfl 35 rfl ?_
          refine zg_icmp_ge hX (by omega) (by have := h9 (nx w t i); split <;> omega) dX2_leastTired_35 44 (by decide) 38 rfl (fun h35 => ?_) (fun h35 => ?_)
          · have hnx : nx w t (i + 1) = nx w t i := by
              simp only [nx]; rw [if_neg (by intro hz; split at h35 <;> omega)]
            refine zg_iinc hX [(4, .int (zI ((i : Int) + 1))), (5, .int (zI (t i : Int))), (0, .int (zI ((mk w 4 : Nat) : Int))), (1, .int (zI (n6 t))), (2, .int (zI ((if nx w t i = 4 then 0 else nx w t i : Nat) : Int))), (3, .int (zI ((if nx w t i = 4 then 10 else t (nx w t i) : Nat) : Int)))] 5 rfl dX2_leastTired_44 (by decide) rfl 47 rfl ?_
            refine zg_goto hX dX2_leastTired_47 8 (by decide) ?_
            exact zg_lv _ [2, 3, 4, 5, 0] rfl (ih8 (i + 1) _ _ _ (by omega) (by omega) (by first | (rw [hnx]; done) | (rw [hnx, if_neg (by omega)])) (by first | (rw [hnx]; done) | (rw [hnx, if_neg (by omega)])) (by omega))
          · have hnx : nx w t (i + 1) = i := by
              simp only [nx]; rw [if_pos ⟨h29, by split at h35 <;> omega⟩]
            refine zg_iload hX 5 rfl dX2_leastTired_38 40 rfl ?_
            refine zg_istore_n hX [(2, .int (zI (i : Int))), (5, .int (zI (t i : Int))), (0, .int (zI ((mk w 4 : Nat) : Int))), (1, .int (zI (n6 t))), (3, .int (zI ((if nx w t i = 4 then 10 else t (nx w t i) : Nat) : Int))), (4, .int (zI (i : Int)))] dX2_leastTired_40 rfl (by decide) rfl 41 rfl ?_
            refine zg_iload hX 1 rfl dX2_leastTired_41 43 rfl ?_
            refine zg_istore_n hX [(3, .int (zI (t i : Int))), (2, .int (zI (i : Int))), (5, .int (zI (t i : Int))), (0, .int (zI ((mk w 4 : Nat) : Int))), (1, .int (zI (n6 t))), (4, .int (zI (i : Int)))] dX2_leastTired_43 rfl (by decide) rfl 44 rfl ?_
            refine zg_iinc hX [(4, .int (zI ((i : Int) + 1))), (3, .int (zI (t i : Int))), (2, .int (zI (i : Int))), (5, .int (zI (t i : Int))), (0, .int (zI ((mk w 4 : Nat) : Int))), (1, .int (zI (n6 t)))] 5 rfl dX2_leastTired_44 (by decide) rfl 47 rfl ?_
            refine zg_goto hX dX2_leastTired_47 8 (by decide) ?_
            exact zg_lv _ [4, 5, 2, 1, 0] rfl (ih8 (i + 1) _ _ _ (by omega) (by omega) (by first | (rw [hnx]; done) | (rw [hnx, if_neg (by omega)])) (by first | (rw [hnx]; done) | (rw [hnx, if_neg (by omega)])) (by omega))
  exact zg_lv _ [3, 4, 2, 1, 0] rfl (L8 _ 0 _ _ _ (Nat.lt_succ_self _) (by omega) (rfl) (rfl) (rfl))
-- Ensemble.sharesOf
set_option maxRecDepth 20000 in
theorem c_X2_sharesOf (l : Launch) (D : va_G) (cI : ClassId) (q : Nat → Nat) (f : Nat → Int) (r : Nat → Nat → Int) (ρ : Ru) (t : Nat → Nat) (b : Nat) (hρ : RuOK ρ) (hc : cR f r ρ) (ht : tk ρ t) (hb : b < rb ρ) : Cn l D cI yX2_sharesOf cX2_sharesOf 9 (some .int) 2 0 0 [.ref (q 18), .int (zI (b : Int)), .int (zI (n6 t))] (cW cI q f r) (pI (n6 (sh ρ b t)) (cW cI q f r)) := by
  refine Cn.of [(0, .ref (q 18)), (1, .int (zI (b : Int))), (2, .int (zI (n6 t)))] (by decide +kernel) (Nat.le_of_ble_eq_true rfl) rfl (fun X hX hR => ?_)
  have hl9 := hρ.1
  have hn4 := hρ.2.1
  have hb6 := hρ.2.2.2.1
  refine zg_aload_n hX 0 rfl dX2_sharesOf_0 rfl 1 rfl ?_
  refine zg_aload_n hX 0 rfl dX2_sharesOf_1 rfl 2 rfl ?_
  refine zg_iload_n hX 2 rfl dX2_sharesOf_2 rfl 3 rfl ?_
  refine zg_callVi (As := [.int (zI (n6 t))]) (rest := [.ref (q 18)]) (k0 := 18) (ci := 2) hX (c_X2_awakeOf l D cI q f r ρ t hρ hc ht) mw_358 mw_359 mw_360 mw_5 mw_361 sg_X2_awakeOf (by decide) (by decide) (Nat.le_refl _) (Nat.le_refl _) rfl rfl rfl (Nat.le_of_ble_eq_true rfl) dX2_sharesOf_3 6 rfl ?_
  refine zg_callVi (As := [.int (zI ((mk (aw ρ t) 4 : Nat) : Int))]) (rest := []) (k0 := 18) (ci := 2) hX (c_X2_heardWith l D cI q f r ρ t hρ hc) mw_365 mw_366 mw_367 mw_5 mw_368 sg_X2_heardWith (by decide) (by decide) (Nat.le_refl _) (Nat.le_refl _) rfl rfl rfl (Nat.le_of_ble_eq_true rfl) dX2_sharesOf_6 9 rfl ?_
  refine zg_istore_n hX [(3, .int (zI ((mk (he ρ t) 4 : Nat) : Int))), (0, .ref (q 18)), (1, .int (zI (b : Int))), (2, .int (zI (n6 t)))] dX2_sharesOf_9 rfl (by decide) rfl 10 rfl ?_
  refine zg_aload_n hX 1 rfl dX2_sharesOf_10 rfl 11 rfl ?_
  refine cg_18_0 hX mw_140 dX2_sharesOf_11 14 rfl ?_
  refine cg_3_1 hX mw_52 dX2_sharesOf_14 17 rfl ?_
  refine zg_iload_n hX 2 rfl dX2_sharesOf_17 rfl 18 rfl ?_
  refine ca_5 hX b (rp ρ b : Int) (by omega) (by omega) (hc.2.2.2.2.2.2.2 b hb) dX2_sharesOf_18 19 rfl ?_
  refine zg_istore hX [(4, .int (zI (rp ρ b : Int))), (3, .int (zI ((mk (he ρ t) 4 : Nat) : Int))), (0, .ref (q 18)), (1, .int (zI (b : Int))), (2, .int (zI (n6 t)))] dX2_sharesOf_19 (by decide) rfl 21 rfl ?_
  refine zg_iconst hX dX2_sharesOf_21 22 rfl ?_
  refine zg_istore hX [(5, .int (zI 0)), (4, .int (zI (rp ρ b : Int))), (3, .int (zI ((mk (he ρ t) 4 : Nat) : Int))), (0, .ref (q 18)), (1, .int (zI (b : Int))), (2, .int (zI (n6 t)))] dX2_sharesOf_22 (by decide) rfl 24 rfl ?_
  refine zg_iconst hX dX2_sharesOf_24 25 rfl ?_
  refine zg_istore hX [(6, .int (zI 0)), (5, .int (zI 0)), (4, .int (zI (rp ρ b : Int))), (3, .int (zI ((mk (he ρ t) 4 : Nat) : Int))), (0, .ref (q 18)), (1, .int (zI (b : Int))), (2, .int (zI (n6 t)))] dX2_sharesOf_25 (by decide) rfl 27 rfl ?_
  have L27 : ∀ (fuel : Nat) (m : Nat) (w : Nat → Bool) (left : Nat) (s : Nat → Nat) (x27_3 : Int) (x27_4 : Int) (x27_5 : Int) (x27_6 : Int), (m < fuel) → (m ≤ 4) → (∀ p, w p = true → p < rn ρ ∧ s p = 0) → (∀ p, s p ≤ 4) → (∀ p, 4 ≤ p → s p = 0) → (left ≤ 4) → (shg ρ t m w left s = shg ρ t 4 (he ρ t) (rp ρ b) (fun _ => 0)) → x27_3 = ((mk w 4 : Nat) : Int) → x27_4 = (left : Int) → x27_5 = n6 s → x27_6 = 4 - (m : Int) → G X 9 0 0 (cW cI q f r) [(0, .ref (q 18)), (1, .int (zI (b : Int))), (2, .int (zI (n6 t))), (3, .int (zI x27_3)), (4, .int (zI x27_4)), (5, .int (zI x27_5)), (6, .int (zI x27_6))] 27 [] := by
    intro fuel
    induction fuel with
    | zero =>
      intro m w left s x27_3 x27_4 x27_5 x27_6 hm27
      exact absurd hm27 (Nat.not_lt_zero _)
    | succ fuel ih27 =>
      intro m w left s x27_3 x27_4 x27_5 x27_6 hm27 hm4 hw hs4 hs0 hle hfin ex27_3 ex27_4 ex27_5 ex27_6
      subst ex27_3
      subst ex27_4
      subst ex27_5
      subst ex27_6
      refine zg_iload hX 6 rfl dX2_sharesOf_27 29 rfl ?_
      refine zg_iconst hX dX2_sharesOf_29 30 rfl ?_
      refine zg_icmp_ge hX (by omega) (by omega) dX2_sharesOf_30 103 (by decide) 33 rfl (fun h30 => ?_) (fun h30 => ?_)
      · have hse : s = sh ρ b t := by rw [sh, ← hfin, show m = 0 by omega]; rfl
        refine zg_iload hX 5 rfl dX2_sharesOf_103 105 rfl ?_
        exact zg_iret hX hR (Nat.le_refl _) (Nat.le_refl _) rfl dX2_sharesOf_105 (pI_of (congrArg (fun z => n6 z) hse))
      · refine zg_iload hX 4 rfl dX2_sharesOf_33 35 rfl ?_
        refine zg_if_le hX (by omega) dX2_sharesOf_35 103 (by decide) 38 rfl (fun h35 => ?_) (fun h35 => ?_)
        · have hse : s = sh ρ b t := by rw [sh, ← hfin, show left = 0 by omega, shg_left0 _ _ _ _ _ (fun p hp => (hw p hp).2)]
          refine zg_iload hX 5 rfl dX2_sharesOf_103 105 rfl ?_
          exact zg_iret hX hR (Nat.le_refl _) (Nat.le_refl _) rfl dX2_sharesOf_105 (pI_of (congrArg (fun z => n6 z) hse))
        · have hmw := mk_rng w 4 (by omega)
          refine zg_iload_n hX 3 rfl dX2_sharesOf_38 rfl 39 rfl ?_
          refine zg_if_eq hX (by omega) dX2_sharesOf_39 103 (by decide) 42 rfl (fun h39 => ?_) (fun h39 => ?_)
          · have hse : s = sh ρ b t := by rw [sh, ← hfin, shg_done (mk_zero.mp (by omega))]
            refine zg_iload hX 5 rfl dX2_sharesOf_103 105 rfl ?_
            exact zg_iret hX hR (Nat.le_refl _) (Nat.le_refl _) rfl dX2_sharesOf_105 (pI_of (congrArg (fun z => n6 z) hse))
          · have hnx : nx w t 4 < 4 ∧ w (nx w t 4) = true := by
              rcases nx_or w t 4 (by omega) with ⟨_, h2⟩ | h2
              · exact absurd (by rw [mk_zero.mpr h2]; rfl) h39
              · exact h2
            have hmo := mo_rng (rk ρ (nx w t 4))
            have hxn := (hw _ hnx.2).1
            refine zg_iload_n hX 3 rfl dX2_sharesOf_42 rfl 43 rfl ?_
            refine zg_iload_n hX 2 rfl dX2_sharesOf_43 rfl 44 rfl ?_
            refine zg_callSi (As := [.int (zI ((mk w 4 : Nat) : Int)), .int (zI (n6 t))]) (rest := []) hX (c_X2_leastTired l D cI _ w t ht.1) mw_369 mw_370 mw_5 mw_371 sg_X2_leastTired.2 (by decide) (by decide) (Nat.le_refl _) (Nat.le_refl _) rfl (Nat.le_of_ble_eq_true rfl) dX2_sharesOf_44 47 rfl ?_
            have e47 : (((if nx w t 4 = 4 then 0 else nx w t 4 : Nat) : Int) : Int) = (nx w t 4 : Int) := by rw [if_neg (by omega)]
            refine zg_to (lv2 := [(0, .ref (q 18)), (1, .int (zI (b : Int))), (2, .int (zI (n6 t))), (3, .int (zI ((mk w 4 : Nat) : Int))), (4, .int (zI (left : Int))), (5, .int (zI (n6 s))), (6, .int (zI (4 - (m : Int))))]) (ws2 := (cW cI q f r)) (st2 := [.int (zI (nx w t 4 : Int))]) ?_ rfl rfl (by rw [e47])
            refine zg_istore hX [(7, .int (zI (nx w t 4 : Int))), (0, .ref (q 18)), (1, .int (zI (b : Int))), (2, .int (zI (n6 t))), (3, .int (zI ((mk w 4 : Nat) : Int))), (4, .int (zI (left : Int))), (5, .int (zI (n6 s))), (6, .int (zI (4 - (m : Int))))] dX2_sharesOf_47 (by decide) rfl 49 rfl ?_
            refine zg_iload hX 5 rfl dX2_sharesOf_49 51 rfl ?_
            refine zg_gets_MOST_TAKEN hX (List.mem_of_getElem? (i := 4) rfl) dX2_sharesOf_51 54 rfl (fun t51 ht51 => ?_)
            refine zg_aload_n hX 1 rfl dX2_sharesOf_54 rfl 55 rfl ?_
            refine cg_18_1 hX mw_141 dX2_sharesOf_55 58 rfl ?_
            refine cg_6_0 hX mw_81 dX2_sharesOf_58 61 rfl ?_
            refine zg_iload hX 0 rfl dX2_sharesOf_61 63 rfl ?_
            refine ca_7 hX (nx w t 4) (rk ρ (nx w t 4) : Int) (by omega) (by omega) (hc.2.2.2.1 _ hxn) dX2_sharesOf_63 64 rfl ?_
            refine zg_ti hX ht51 (by decide) (rk ρ (nx w t 4)) (rfl) (by have := hρ.2.2.1 (nx w t 4); omega) dX2_sharesOf_64 65 rfl ?_
            have e65 : (mT (rk ρ (nx w t 4)) : Int) = (mo (rk ρ (nx w t 4)) : Int) := mo_mT _ (hρ.2.2.1 _)
            refine zg_to (lv2 := [(7, .int (zI (nx w t 4 : Int))), (0, .ref (q 18)), (1, .int (zI (b : Int))), (2, .int (zI (n6 t))), (3, .int (zI ((mk w 4 : Nat) : Int))), (4, .int (zI (left : Int))), (5, .int (zI (n6 s))), (6, .int (zI (4 - (m : Int))))]) (ws2 := (cW cI q f r)) (st2 := [.int (zI (mo (rk ρ (nx w t 4)) : Int)), .int (zI (left : Int))]) ?_ rfl rfl (by rw [e65])
            refine zg_mmin hX (by omega) (by omega) mw_374 mw_332 mw_11 mw_333 (by decide) (Nat.le_refl _) (Nat.le_refl _) (Nat.le_of_ble_eq_true rfl) dX2_sharesOf_65 68 rfl ?_
            have e68 : (if (mo (rk ρ (nx w t 4)) : Int) < (left : Int) then (mo (rk ρ (nx w t 4)) : Int) else (left : Int) : Int) = ((min left (mo (rk ρ (nx w t 4))) : Nat) : Int) := by split <;> omega
            refine zg_to (lv2 := [(7, .int (zI (nx w t 4 : Int))), (0, .ref (q 18)), (1, .int (zI (b : Int))), (2, .int (zI (n6 t))), (3, .int (zI ((mk w 4 : Nat) : Int))), (4, .int (zI (left : Int))), (5, .int (zI (n6 s))), (6, .int (zI (4 - (m : Int))))]) (ws2 := (cW cI q f r)) (st2 := [.int (zI ((min left (mo (rk ρ (nx w t 4))) : Nat) : Int))]) ?_ rfl rfl (by rw [e68])
            refine zg_istore hX [(8, .int (zI ((min left (mo (rk ρ (nx w t 4))) : Nat) : Int))), (7, .int (zI (nx w t 4 : Int))), (0, .ref (q 18)), (1, .int (zI (b : Int))), (2, .int (zI (n6 t))), (3, .int (zI ((mk w 4 : Nat) : Int))), (4, .int (zI (left : Int))), (5, .int (zI (n6 s))), (6, .int (zI (4 - (m : Int))))] dX2_sharesOf_68 (by decide) rfl 70 rfl ?_
            refine zg_iload hX 7 rfl dX2_sharesOf_70 72 rfl ?_
            refine zg_iload hX 1 rfl dX2_sharesOf_72 74 rfl ?_
            refine zg_iload hX 0 rfl dX2_sharesOf_74 76 rfl ?_
            refine zg_callSi (As := [.int (zI (n6 s)), .int (zI (nx w t 4 : Int)), .int (zI ((min left (mo (rk ρ (nx w t 4))) : Nat) : Int))]) (rest := []) hX (c_X5_with l D cI _ s (nx w t 4) (min left (mo (rk ρ (nx w t 4)))) (fun p => by have := hs4 p; omega) (by omega) (by omega)) mw_375 mw_376 mw_12 mw_377 sg_X5_with.2 (by decide) (by decide) (Nat.le_refl _) (Nat.le_refl _) rfl (Nat.le_of_ble_eq_true rfl) dX2_sharesOf_76 79 rfl ?_
            refine zg_istore hX [(5, .int (zI (n6 (pu s (nx w t 4) (min left (mo (rk ρ (nx w t 4)))))))), (8, .int (zI ((min left (mo (rk ρ (nx w t 4))) : Nat) : Int))), (7, .int (zI (nx w t 4 : Int))), (0, .ref (q 18)), (1, .int (zI (b : Int))), (2, .int (zI (n6 t))), (3, .int (zI ((mk w 4 : Nat) : Int))), (4, .int (zI (left : Int))), (6, .int (zI (4 - (m : Int))))] dX2_sharesOf_79 (by decide) rfl 81 rfl ?_
            refine zg_iload hX 7 rfl dX2_sharesOf_81 83 rfl ?_
            refine zg_iload hX 1 rfl dX2_sharesOf_83 85 rfl ?_
            refine zg_isub hX dX2_sharesOf_85 86 rfl ?_
            refine zg_istore hX [(4, .int (zI ((left : Int) - ((min left (mo (rk ρ (nx w t 4))) : Nat) : Int)))), (5, .int (zI (n6 (pu s (nx w t 4) (min left (mo (rk ρ (nx w t 4)))))))), (8, .int (zI ((min left (mo (rk ρ (nx w t 4))) : Nat) : Int))), (7, .int (zI (nx w t 4 : Int))), (0, .ref (q 18)), (1, .int (zI (b : Int))), (2, .int (zI (n6 t))), (3, .int (zI ((mk w 4 : Nat) : Int))), (6, .int (zI (4 - (m : Int))))] dX2_sharesOf_86 (by decide) rfl 88 rfl ?_
            refine zg_iload_n hX 7 rfl dX2_sharesOf_88 rfl 89 rfl ?_
            refine zg_iconst hX dX2_sharesOf_89 90 rfl ?_
            refine zg_iload hX 3 rfl dX2_sharesOf_90 92 rfl ?_
            refine zg_ishl hX ((2 ^ (nx w t 4) : Nat) : Int) (zb_shl1 (by omega)) dX2_sharesOf_92 93 rfl ?_
            refine zg_iconst hX dX2_sharesOf_93 94 rfl ?_
            refine zg_ixor hX ((zI ((2 ^ (nx w t 4) : Nat) : Int) ^^^ zI (-1)).toInt) (zI_of _) dX2_sharesOf_94 95 rfl ?_
            refine zg_iand hX ((mk (pu w (nx w t 4) false) 4 : Nat) : Int) (by simp only [zI_back]; exact zb_clr (by omega) (by omega)) dX2_sharesOf_95 96 rfl ?_
            refine zg_istore_n hX [(3, .int (zI ((mk (pu w (nx w t 4) false) 4 : Nat) : Int))), (4, .int (zI ((left : Int) - ((min left (mo (rk ρ (nx w t 4))) : Nat) : Int)))), (5, .int (zI (n6 (pu s (nx w t 4) (min left (mo (rk ρ (nx w t 4)))))))), (8, .int (zI ((min left (mo (rk ρ (nx w t 4))) : Nat) : Int))), (7, .int (zI (nx w t 4 : Int))), (0, .ref (q 18)), (1, .int (zI (b : Int))), (2, .int (zI (n6 t))), (6, .int (zI (4 - (m : Int))))] dX2_sharesOf_96 rfl (by decide) rfl 97 rfl ?_
            refine zg_iinc hX [(6, .int (zI ((4 - (m : Int)) + 1))), (3, .int (zI ((mk (pu w (nx w t 4) false) 4 : Nat) : Int))), (4, .int (zI ((left : Int) - ((min left (mo (rk ρ (nx w t 4))) : Nat) : Int)))), (5, .int (zI (n6 (pu s (nx w t 4) (min left (mo (rk ρ (nx w t 4)))))))), (8, .int (zI ((min left (mo (rk ρ (nx w t 4))) : Nat) : Int))), (7, .int (zI (nx w t 4 : Int))), (0, .ref (q 18)), (1, .int (zI (b : Int))), (2, .int (zI (n6 t)))] 8 rfl dX2_sharesOf_97 (by decide) rfl 100 rfl ?_
            refine zg_goto hX dX2_sharesOf_100 27 (by decide) ?_
            exact zg_lv _ [6, 7, 8, 1, 2, 3, 0] rfl (ih27 (m - 1) (pu w (nx w t 4) false) (left - min left (mo (rk ρ (nx w t 4)))) (pu s (nx w t 4) (min left (mo (rk ρ (nx w t 4))))) _ _ _ _ (by omega) (by omega) (fun p hp => by
                rw [pu_at] at hp
                split at hp
                · exact absurd hp (by decide)
                · next hne => rw [pu_ne _ _ hne]; exact hw p hp) (fun p => by
                rw [pu_at]; split
                · omega
                · exact hs4 p) (fun p hp => by
                rw [pu_ne _ _ (by omega)]; exact hs0 p hp) (by omega) (by rw [← hfin]; exact shg_step (by omega) hnx.1) (rfl) (by omega) (rfl) (by omega))
  exact zg_lv _ [4, 5, 6, 3, 2, 1, 0] rfl (L27 _ 4 (he ρ t) (rp ρ b) (fun _ => 0) _ _ _ _ (Nat.lt_succ_self _) (by omega) (fun p hp => ⟨by rcases Nat.lt_or_ge p (rn ρ) with h | h; exact h; rw [he_out h] at hp; exact absurd hp (by decide), rfl⟩) (fun _ => Nat.zero_le _) (fun _ _ => rfl) (hρ.2.2.2.2.2 b) (rfl) (rfl) (rfl) (n6_0.symm) (by omega))
-- Ensemble.tiredBehind
set_option maxRecDepth 20000 in
theorem c_X2_tiredBehind (l : Launch) (D : va_G) (cI : ClassId) (q : Nat → Nat) (f : Nat → Int) (r : Nat → Nat → Int) (ρ : Ru) (t : Nat → Nat) (b : Nat) (hρ : RuOK ρ) (hc : cR f r ρ) (ht : tk ρ t) (hb : b < rb ρ) : Cn l D cI yX2_tiredBehind cX2_tiredBehind 9 (some .int) 2 0 0 [.ref (q 18), .int (zI (b : Int)), .int (zI (n6 t)), .int (zI (n6 (sh ρ b t)))] (cW cI q f r) (pI (n6 (be ρ b t)) (cW cI q f r)) := by
  refine Cn.of [(0, .ref (q 18)), (1, .int (zI (b : Int))), (2, .int (zI (n6 t))), (3, .int (zI (n6 (sh ρ b t))))] (by decide +kernel) (Nat.le_of_ble_eq_true rfl) rfl (fun X hX hR => ?_)
  have hl9 := hρ.1
  have hn4 := hρ.2.1
  have hb6 := hρ.2.2.2.1
  have hsf := sh_facts ρ b t hρ
  have hs3 := hρ.2.2.2.2.1 b
  have hsT := sT_rng (rs ρ b)
  refine zg_aload_n hX 0 rfl dX2_tiredBehind_0 rfl 1 rfl ?_
  refine cg_18_1 hX mw_141 dX2_tiredBehind_1 4 rfl ?_
  refine cg_6_9 hX mw_104 ((mk (snm ρ) 4 : Nat) : Int) hc.2.2.2.2.2.1 dX2_tiredBehind_4 7 rfl ?_
  refine zg_aload_n hX 0 rfl dX2_tiredBehind_7 rfl 8 rfl ?_
  refine zg_iload_n hX 2 rfl dX2_tiredBehind_8 rfl 9 rfl ?_
  refine zg_callVi (As := [.int (zI (n6 t))]) (rest := [.int (zI ((mk (snm ρ) 4 : Nat) : Int))]) (k0 := 18) (ci := 2) hX (c_X2_awakeOf l D cI q f r ρ t hρ hc ht) mw_358 mw_359 mw_360 mw_5 mw_361 sg_X2_awakeOf (by decide) (by decide) (Nat.le_refl _) (Nat.le_refl _) rfl rfl rfl (Nat.le_of_ble_eq_true rfl) dX2_tiredBehind_9 12 rfl ?_
  refine zg_iconst hX dX2_tiredBehind_12 13 rfl ?_
  refine zg_ixor hX ((zI ((mk (aw ρ t) 4 : Nat) : Int) ^^^ zI (-1)).toInt) (zI_of _) dX2_tiredBehind_13 14 rfl ?_
  refine zg_iand hX ((mk (snr ρ t) 4 : Nat) : Int) (by simp only [zI_back]; exact sn_snr t) dX2_tiredBehind_14 15 rfl ?_
  refine zg_istore hX [(4, .int (zI ((mk (snr ρ t) 4 : Nat) : Int))), (0, .ref (q 18)), (1, .int (zI (b : Int))), (2, .int (zI (n6 t))), (3, .int (zI (n6 (sh ρ b t))))] dX2_tiredBehind_15 (by decide) rfl 17 rfl ?_
  refine zg_gets_SORT_TIRES hX (List.mem_of_getElem? (i := 5) rfl) dX2_tiredBehind_17 20 rfl (fun t17 ht17 => ?_)
  refine zg_aload_n hX 1 rfl dX2_tiredBehind_20 rfl 21 rfl ?_
  refine cg_18_0 hX mw_140 dX2_tiredBehind_21 24 rfl ?_
  refine cg_3_0 hX mw_48 dX2_tiredBehind_24 27 rfl ?_
  refine zg_iload_n hX 2 rfl dX2_tiredBehind_27 rfl 28 rfl ?_
  refine ca_4 hX b (rs ρ b : Int) (by omega) (by omega) (hc.2.2.2.2.2.2.1 b hb) dX2_tiredBehind_28 29 rfl ?_
  refine zg_ti hX ht17 (by decide) (rs ρ b) (rfl) (by omega) dX2_tiredBehind_29 30 rfl ?_
  refine zg_istore hX [(5, .int (zI (sT (rs ρ b)))), (4, .int (zI ((mk (snr ρ t) 4 : Nat) : Int))), (0, .ref (q 18)), (1, .int (zI (b : Int))), (2, .int (zI (n6 t))), (3, .int (zI (n6 (sh ρ b t))))] dX2_tiredBehind_30 (by decide) rfl 32 rfl ?_
  refine zg_iconst hX dX2_tiredBehind_32 33 rfl ?_
  refine zg_istore hX [(6, .int (zI 0)), (5, .int (zI (sT (rs ρ b)))), (4, .int (zI ((mk (snr ρ t) 4 : Nat) : Int))), (0, .ref (q 18)), (1, .int (zI (b : Int))), (2, .int (zI (n6 t))), (3, .int (zI (n6 (sh ρ b t))))] dX2_tiredBehind_33 (by decide) rfl 35 rfl ?_
  refine zg_iconst hX dX2_tiredBehind_35 36 rfl ?_
  refine zg_istore hX [(7, .int (zI 0)), (6, .int (zI 0)), (5, .int (zI (sT (rs ρ b)))), (4, .int (zI ((mk (snr ρ t) 4 : Nat) : Int))), (0, .ref (q 18)), (1, .int (zI (b : Int))), (2, .int (zI (n6 t))), (3, .int (zI (n6 (sh ρ b t))))] dX2_tiredBehind_36 (by decide) rfl 38 rfl ?_
  have L38 : ∀ (fuel : Nat) (i : Nat) (x38_6 : Int) (x38_7 : Int), (rn ρ - i < fuel) → (i ≤ rn ρ) → x38_6 = n6 (bs ρ b t i) → x38_7 = (i : Int) → G X 9 0 0 (cW cI q f r) [(0, .ref (q 18)), (1, .int (zI (b : Int))), (2, .int (zI (n6 t))), (3, .int (zI (n6 (sh ρ b t)))), (4, .int (zI ((mk (snr ρ t) 4 : Nat) : Int))), (5, .int (zI (sT (rs ρ b)))), (6, .int (zI x38_6)), (7, .int (zI x38_7))] 38 [] := by
    intro fuel
    induction fuel with
    | zero =>
      intro i x38_6 x38_7 hm38
      exact absurd hm38 (Nat.not_lt_zero _)
    | succ fuel ih38 =>
      intro i x38_6 x38_7 hm38 hi ex38_6 ex38_7
      subst ex38_6
      subst ex38_7
      refine zg_iload hX 7 rfl dX2_tiredBehind_38 40 rfl ?_
      refine zg_aload_n hX 0 rfl dX2_tiredBehind_40 rfl 41 rfl ?_
      refine cg_18_1 hX mw_141 dX2_tiredBehind_41 44 rfl ?_
      refine cg_6_6 hX mw_92 (rn ρ : Int) hc.2.2.1 dX2_tiredBehind_44 47 rfl ?_
      refine zg_icmp_ge hX (by omega) (by omega) dX2_tiredBehind_47 138 (by decide) 50 rfl (fun h47 => ?_) (fun h47 => ?_)
      · refine zg_iload hX 6 rfl dX2_tiredBehind_138 140 rfl ?_
        exact zg_iret hX hR (Nat.le_refl _) (Nat.le_refl _) rfl dX2_tiredBehind_140 (pI_of (by rw [show i = rn ρ by omega, bs_all]))
      · have h9i := ht.1 i
        have hbz := bz_rng (ρ := ρ) (b := b) (p := i) (ht.1 i)
        have hs4i := hsf.1 i
        have hbe := (tk_be ρ b t).1 i
        refine zg_iload_n hX 2 rfl dX2_tiredBehind_50 rfl 51 rfl ?_
        refine zg_iload hX 7 rfl dX2_tiredBehind_51 53 rfl ?_
        refine zg_callSi (As := [.int (zI (n6 t)), .int (zI (i : Int))]) (rest := []) hX (c_X5_get l D cI _ t i (tk_16 ht) (by omega)) mw_362 mw_363 mw_12 mw_364 sg_X5_get.2 (by decide) (by decide) (Nat.le_refl _) (Nat.le_refl _) rfl (Nat.le_of_ble_eq_true rfl) dX2_tiredBehind_53 56 rfl ?_
        refine zg_iload hX 5 rfl dX2_tiredBehind_56 58 rfl ?_
        refine zg_iadd hX dX2_tiredBehind_58 59 rfl ?_
        refine zg_istore hX [(8, .int (zI ((t i : Int) + (sT (rs ρ b))))), (0, .ref (q 18)), (1, .int (zI (b : Int))), (2, .int (zI (n6 t))), (3, .int (zI (n6 (sh ρ b t)))), (4, .int (zI ((mk (snr ρ t) 4 : Nat) : Int))), (5, .int (zI (sT (rs ρ b)))), (6, .int (zI (n6 (bs ρ b t i)))), (7, .int (zI (i : Int)))] dX2_tiredBehind_59 (by decide) rfl 61 rfl ?_
        refine zg_iload hX 0 rfl dX2_tiredBehind_61 63 rfl ?_
        refine zg_iload_n hX 4 rfl dX2_tiredBehind_63 rfl 64 rfl ?_
        refine zg_iload hX 8 rfl dX2_tiredBehind_64 66 rfl ?_
        refine zg_callSi (As := [.int (zI (n6 (sh ρ b t))), .int (zI (i : Int))]) (rest := [.int (zI ((t i : Int) + (sT (rs ρ b))))]) hX (c_X5_get l D cI _ (sh ρ b t) i (fun p => by have := hsf.1 p; omega) (by omega)) mw_362 mw_363 mw_12 mw_364 sg_X5_get.2 (by decide) (by decide) (Nat.le_refl _) (Nat.le_refl _) rfl (Nat.le_of_ble_eq_true rfl) dX2_tiredBehind_66 69 rfl ?_
        refine zg_if_le hX (by omega) dX2_tiredBehind_69 76 (by decide) 72 rfl (fun h69 => ?_) (fun h69 => ?_)
        · refine zg_iconst hX dX2_tiredBehind_76 77 rfl ?_
          refine zg_iadd hX dX2_tiredBehind_77 78 rfl ?_
          refine zg_istore hX [(8, .int (zI (((t i : Int) + (sT (rs ρ b))) + 0))), (0, .ref (q 18)), (1, .int (zI (b : Int))), (2, .int (zI (n6 t))), (3, .int (zI (n6 (sh ρ b t)))), (4, .int (zI ((mk (snr ρ t) 4 : Nat) : Int))), (5, .int (zI (sT (rs ρ b)))), (6, .int (zI (n6 (bs ρ b t i)))), (7, .int (zI (i : Int)))] dX2_tiredBehind_78 (by decide) rfl 80 rfl ?_
          refine zg_iload hX 0 rfl dX2_tiredBehind_80 82 rfl ?_
          refine zg_iload hX 5 rfl dX2_tiredBehind_82 84 rfl ?_
          refine zg_iload hX 8 rfl dX2_tiredBehind_84 86 rfl ?_
          refine zg_iconst hX dX2_tiredBehind_86 87 rfl ?_
          refine zg_iadd hX dX2_tiredBehind_87 88 rfl ?_
          refine zg_ishr hX ((zI ((mk (snr ρ t) 4 : Nat) : Int) >>> (zI ((i : Int) + 1) &&& 31)).toInt) (zI_of _) dX2_tiredBehind_88 89 rfl ?_
          refine zg_iconst hX dX2_tiredBehind_89 90 rfl ?_
          refine zg_iand hX (b2 (snr ρ t (i + 1))) (by simp only [zI_back]; exact snr_up t hn4 (by omega)) dX2_tiredBehind_90 91 rfl ?_
          refine zg_isub hX dX2_tiredBehind_91 92 rfl ?_
          refine zg_istore hX [(8, .int (zI ((((t i : Int) + (sT (rs ρ b))) + 0) - (b2 (snr ρ t (i + 1)))))), (0, .ref (q 18)), (1, .int (zI (b : Int))), (2, .int (zI (n6 t))), (3, .int (zI (n6 (sh ρ b t)))), (4, .int (zI ((mk (snr ρ t) 4 : Nat) : Int))), (5, .int (zI (sT (rs ρ b)))), (6, .int (zI (n6 (bs ρ b t i)))), (7, .int (zI (i : Int)))] dX2_tiredBehind_92 (by decide) rfl 94 rfl ?_
          refine zg_iload hX 0 rfl dX2_tiredBehind_94 96 rfl ?_
          refine zg_iload hX 5 rfl dX2_tiredBehind_96 98 rfl ?_
          refine zg_iconst hX dX2_tiredBehind_98 99 rfl ?_
          refine zg_ishl hX ((zI ((mk (snr ρ t) 4 : Nat) : Int) <<< (zI 1 &&& 31)).toInt) (zI_of _) dX2_tiredBehind_99 100 rfl ?_
          refine zg_iload hX 8 rfl dX2_tiredBehind_100 102 rfl ?_
          refine zg_ishr hX ((zI ((zI ((mk (snr ρ t) 4 : Nat) : Int) <<< (zI 1 &&& 31)).toInt) >>> (zI (i : Int) &&& 31)).toInt) (zI_of _) dX2_tiredBehind_102 103 rfl ?_
          refine zg_iconst hX dX2_tiredBehind_103 104 rfl ?_
          refine zg_iand hX (if i = 0 then 0 else b2 (snr ρ t (i - 1))) (by simp only [zI_back]; exact snr_dn t (by omega)) dX2_tiredBehind_104 105 rfl ?_
          refine zg_isub hX dX2_tiredBehind_105 106 rfl ?_
          have e106 : (((((t i : Int) + (sT (rs ρ b))) + 0) - (b2 (snr ρ t (i + 1)))) - (if i = 0 then 0 else b2 (snr ρ t (i - 1))) : Int) = bz ρ b t i := by unfold bz; first | rw [if_pos (show 0 < sh ρ b t i by omega)] | rw [if_neg (show ¬ 0 < sh ρ b t i by omega)]
          refine zg_to (lv2 := [(8, .int (zI ((((t i : Int) + (sT (rs ρ b))) + 0) - (b2 (snr ρ t (i + 1)))))), (0, .ref (q 18)), (1, .int (zI (b : Int))), (2, .int (zI (n6 t))), (3, .int (zI (n6 (sh ρ b t)))), (4, .int (zI ((mk (snr ρ t) 4 : Nat) : Int))), (5, .int (zI (sT (rs ρ b)))), (6, .int (zI (n6 (bs ρ b t i)))), (7, .int (zI (i : Int)))]) (ws2 := (cW cI q f r)) (st2 := [.int (zI (bz ρ b t i))]) ?_ rfl rfl (by rw [e106])
          refine zg_istore hX [(8, .int (zI (bz ρ b t i))), (0, .ref (q 18)), (1, .int (zI (b : Int))), (2, .int (zI (n6 t))), (3, .int (zI (n6 (sh ρ b t)))), (4, .int (zI ((mk (snr ρ t) 4 : Nat) : Int))), (5, .int (zI (sT (rs ρ b)))), (6, .int (zI (n6 (bs ρ b t i)))), (7, .int (zI (i : Int)))] dX2_tiredBehind_106 (by decide) rfl 108 rfl ?_
          refine zg_iconst hX dX2_tiredBehind_108 109 rfl ?_
          refine zg_bipush hX dX2_tiredBehind_109 111 rfl (by decide) ?_
          refine zg_iload hX 0 rfl dX2_tiredBehind_111 113 rfl ?_
          refine zg_mmin hX (by omega) (by omega) mw_374 mw_332 mw_11 mw_333 (by decide) (Nat.le_refl _) (Nat.le_refl _) (Nat.le_of_ble_eq_true rfl) dX2_tiredBehind_113 116 rfl ?_
          refine zg_mmax hX (by omega) (by split <;> omega) mw_388 mw_336 mw_11 mw_337 (by decide) (Nat.le_refl _) (Nat.le_refl _) (Nat.le_of_ble_eq_true rfl) dX2_tiredBehind_116 119 rfl ?_
          have e119 : (if 0 < (if (bz ρ b t i) < 9 then (bz ρ b t i) else 9) then (if (bz ρ b t i) < 9 then (bz ρ b t i) else 9) else 0 : Int) = (be ρ b t i : Int) := by rw [be_at (by omega), clp_mm]
          refine zg_to (lv2 := [(8, .int (zI (bz ρ b t i))), (0, .ref (q 18)), (1, .int (zI (b : Int))), (2, .int (zI (n6 t))), (3, .int (zI (n6 (sh ρ b t)))), (4, .int (zI ((mk (snr ρ t) 4 : Nat) : Int))), (5, .int (zI (sT (rs ρ b)))), (6, .int (zI (n6 (bs ρ b t i)))), (7, .int (zI (i : Int)))]) (ws2 := (cW cI q f r)) (st2 := [.int (zI (be ρ b t i : Int))]) ?_ rfl rfl (by rw [e119])
          refine zg_istore hX [(8, .int (zI (be ρ b t i : Int))), (0, .ref (q 18)), (1, .int (zI (b : Int))), (2, .int (zI (n6 t))), (3, .int (zI (n6 (sh ρ b t)))), (4, .int (zI ((mk (snr ρ t) 4 : Nat) : Int))), (5, .int (zI (sT (rs ρ b)))), (6, .int (zI (n6 (bs ρ b t i)))), (7, .int (zI (i : Int)))] dX2_tiredBehind_119 (by decide) rfl 121 rfl ?_
          refine zg_iload hX 7 rfl dX2_tiredBehind_121 123 rfl ?_
          refine zg_iload hX 8 rfl dX2_tiredBehind_123 125 rfl ?_
          refine zg_iload hX 0 rfl dX2_tiredBehind_125 127 rfl ?_
          refine zg_callSi (As := [.int (zI (n6 (bs ρ b t i))), .int (zI (i : Int)), .int (zI (be ρ b t i : Int))]) (rest := []) hX (c_X5_with l D cI _ (bs ρ b t i) i (be ρ b t i) (bs_16 ρ b t i) (by omega) (by omega)) mw_375 mw_376 mw_12 mw_377 sg_X5_with.2 (by decide) (by decide) (Nat.le_refl _) (Nat.le_refl _) rfl (Nat.le_of_ble_eq_true rfl) dX2_tiredBehind_127 130 rfl ?_
          refine zg_istore hX [(6, .int (zI (n6 (pu (bs ρ b t i) i (be ρ b t i))))), (8, .int (zI (be ρ b t i : Int))), (0, .ref (q 18)), (1, .int (zI (b : Int))), (2, .int (zI (n6 t))), (3, .int (zI (n6 (sh ρ b t)))), (4, .int (zI ((mk (snr ρ t) 4 : Nat) : Int))), (5, .int (zI (sT (rs ρ b)))), (7, .int (zI (i : Int)))] dX2_tiredBehind_130 (by decide) rfl 132 rfl ?_
          refine zg_iinc hX [(7, .int (zI ((i : Int) + 1))), (6, .int (zI (n6 (pu (bs ρ b t i) i (be ρ b t i))))), (8, .int (zI (be ρ b t i : Int))), (0, .ref (q 18)), (1, .int (zI (b : Int))), (2, .int (zI (n6 t))), (3, .int (zI (n6 (sh ρ b t)))), (4, .int (zI ((mk (snr ρ t) 4 : Nat) : Int))), (5, .int (zI (sT (rs ρ b))))] 8 rfl dX2_tiredBehind_132 (by decide) rfl 135 rfl ?_
          refine zg_goto hX dX2_tiredBehind_135 38 (by decide) ?_
          exact zg_lv _ [3, 4, 5, 6, 7, 8, 1, 0] rfl (ih38 (i + 1) _ _ (by omega) (by omega) (by rw [bs_step]) (by omega))
        · refine zg_iconst hX dX2_tiredBehind_72 73 rfl ?_
          refine zg_goto hX dX2_tiredBehind_73 77 (by decide) ?_
          refine zg_iadd hX dX2_tiredBehind_77 78 rfl ?_
          refine zg_istore hX [(8, .int (zI (((t i : Int) + (sT (rs ρ b))) + 1))), (0, .ref (q 18)), (1, .int (zI (b : Int))), (2, .int (zI (n6 t))), (3, .int (zI (n6 (sh ρ b t)))), (4, .int (zI ((mk (snr ρ t) 4 : Nat) : Int))), (5, .int (zI (sT (rs ρ b)))), (6, .int (zI (n6 (bs ρ b t i)))), (7, .int (zI (i : Int)))] dX2_tiredBehind_78 (by decide) rfl 80 rfl ?_
          refine zg_iload hX 0 rfl dX2_tiredBehind_80 82 rfl ?_
          refine zg_iload hX 5 rfl dX2_tiredBehind_82 84 rfl ?_
          refine zg_iload hX 8 rfl dX2_tiredBehind_84 86 rfl ?_
          refine zg_iconst hX dX2_tiredBehind_86 87 rfl ?_
          refine zg_iadd hX dX2_tiredBehind_87 88 rfl ?_
          refine zg_ishr hX ((zI ((mk (snr ρ t) 4 : Nat) : Int) >>> (zI ((i : Int) + 1) &&& 31)).toInt) (zI_of _) dX2_tiredBehind_88 89 rfl ?_
          refine zg_iconst hX dX2_tiredBehind_89 90 rfl ?_
          refine zg_iand hX (b2 (snr ρ t (i + 1))) (by simp only [zI_back]; exact snr_up t hn4 (by omega)) dX2_tiredBehind_90 91 rfl ?_
          refine zg_isub hX dX2_tiredBehind_91 92 rfl ?_
          refine zg_istore hX [(8, .int (zI ((((t i : Int) + (sT (rs ρ b))) + 1) - (b2 (snr ρ t (i + 1)))))), (0, .ref (q 18)), (1, .int (zI (b : Int))), (2, .int (zI (n6 t))), (3, .int (zI (n6 (sh ρ b t)))), (4, .int (zI ((mk (snr ρ t) 4 : Nat) : Int))), (5, .int (zI (sT (rs ρ b)))), (6, .int (zI (n6 (bs ρ b t i)))), (7, .int (zI (i : Int)))] dX2_tiredBehind_92 (by decide) rfl 94 rfl ?_
          refine zg_iload hX 0 rfl dX2_tiredBehind_94 96 rfl ?_
          refine zg_iload hX 5 rfl dX2_tiredBehind_96 98 rfl ?_
          refine zg_iconst hX dX2_tiredBehind_98 99 rfl ?_
          refine zg_ishl hX ((zI ((mk (snr ρ t) 4 : Nat) : Int) <<< (zI 1 &&& 31)).toInt) (zI_of _) dX2_tiredBehind_99 100 rfl ?_
          refine zg_iload hX 8 rfl dX2_tiredBehind_100 102 rfl ?_
          refine zg_ishr hX ((zI ((zI ((mk (snr ρ t) 4 : Nat) : Int) <<< (zI 1 &&& 31)).toInt) >>> (zI (i : Int) &&& 31)).toInt) (zI_of _) dX2_tiredBehind_102 103 rfl ?_
          refine zg_iconst hX dX2_tiredBehind_103 104 rfl ?_
          refine zg_iand hX (if i = 0 then 0 else b2 (snr ρ t (i - 1))) (by simp only [zI_back]; exact snr_dn t (by omega)) dX2_tiredBehind_104 105 rfl ?_
          refine zg_isub hX dX2_tiredBehind_105 106 rfl ?_
          have e106 : (((((t i : Int) + (sT (rs ρ b))) + 1) - (b2 (snr ρ t (i + 1)))) - (if i = 0 then 0 else b2 (snr ρ t (i - 1))) : Int) = bz ρ b t i := by unfold bz; first | rw [if_pos (show 0 < sh ρ b t i by omega)] | rw [if_neg (show ¬ 0 < sh ρ b t i by omega)]
          refine zg_to (lv2 := [(8, .int (zI ((((t i : Int) + (sT (rs ρ b))) + 1) - (b2 (snr ρ t (i + 1)))))), (0, .ref (q 18)), (1, .int (zI (b : Int))), (2, .int (zI (n6 t))), (3, .int (zI (n6 (sh ρ b t)))), (4, .int (zI ((mk (snr ρ t) 4 : Nat) : Int))), (5, .int (zI (sT (rs ρ b)))), (6, .int (zI (n6 (bs ρ b t i)))), (7, .int (zI (i : Int)))]) (ws2 := (cW cI q f r)) (st2 := [.int (zI (bz ρ b t i))]) ?_ rfl rfl (by rw [e106])
          refine zg_istore hX [(8, .int (zI (bz ρ b t i))), (0, .ref (q 18)), (1, .int (zI (b : Int))), (2, .int (zI (n6 t))), (3, .int (zI (n6 (sh ρ b t)))), (4, .int (zI ((mk (snr ρ t) 4 : Nat) : Int))), (5, .int (zI (sT (rs ρ b)))), (6, .int (zI (n6 (bs ρ b t i)))), (7, .int (zI (i : Int)))] dX2_tiredBehind_106 (by decide) rfl 108 rfl ?_
          refine zg_iconst hX dX2_tiredBehind_108 109 rfl ?_
          refine zg_bipush hX dX2_tiredBehind_109 111 rfl (by decide) ?_
          refine zg_iload hX 0 rfl dX2_tiredBehind_111 113 rfl ?_
          refine zg_mmin hX (by omega) (by omega) mw_374 mw_332 mw_11 mw_333 (by decide) (Nat.le_refl _) (Nat.le_refl _) (Nat.le_of_ble_eq_true rfl) dX2_tiredBehind_113 116 rfl ?_
          refine zg_mmax hX (by omega) (by split <;> omega) mw_388 mw_336 mw_11 mw_337 (by decide) (Nat.le_refl _) (Nat.le_refl _) (Nat.le_of_ble_eq_true rfl) dX2_tiredBehind_116 119 rfl ?_
          have e119 : (if 0 < (if (bz ρ b t i) < 9 then (bz ρ b t i) else 9) then (if (bz ρ b t i) < 9 then (bz ρ b t i) else 9) else 0 : Int) = (be ρ b t i : Int) := by rw [be_at (by omega), clp_mm]
          refine zg_to (lv2 := [(8, .int (zI (bz ρ b t i))), (0, .ref (q 18)), (1, .int (zI (b : Int))), (2, .int (zI (n6 t))), (3, .int (zI (n6 (sh ρ b t)))), (4, .int (zI ((mk (snr ρ t) 4 : Nat) : Int))), (5, .int (zI (sT (rs ρ b)))), (6, .int (zI (n6 (bs ρ b t i)))), (7, .int (zI (i : Int)))]) (ws2 := (cW cI q f r)) (st2 := [.int (zI (be ρ b t i : Int))]) ?_ rfl rfl (by rw [e119])
          refine zg_istore hX [(8, .int (zI (be ρ b t i : Int))), (0, .ref (q 18)), (1, .int (zI (b : Int))), (2, .int (zI (n6 t))), (3, .int (zI (n6 (sh ρ b t)))), (4, .int (zI ((mk (snr ρ t) 4 : Nat) : Int))), (5, .int (zI (sT (rs ρ b)))), (6, .int (zI (n6 (bs ρ b t i)))), (7, .int (zI (i : Int)))] dX2_tiredBehind_119 (by decide) rfl 121 rfl ?_
          refine zg_iload hX 7 rfl dX2_tiredBehind_121 123 rfl ?_
          refine zg_iload hX 8 rfl dX2_tiredBehind_123 125 rfl ?_
          refine zg_iload hX 0 rfl dX2_tiredBehind_125 127 rfl ?_
          refine zg_callSi (As := [.int (zI (n6 (bs ρ b t i))), .int (zI (i : Int)), .int (zI (be ρ b t i : Int))]) (rest := []) hX (c_X5_with l D cI _ (bs ρ b t i) i (be ρ b t i) (bs_16 ρ b t i) (by omega) (by omega)) mw_375 mw_376 mw_12 mw_377 sg_X5_with.2 (by decide) (by decide) (Nat.le_refl _) (Nat.le_refl _) rfl (Nat.le_of_ble_eq_true rfl) dX2_tiredBehind_127 130 rfl ?_
          refine zg_istore hX [(6, .int (zI (n6 (pu (bs ρ b t i) i (be ρ b t i))))), (8, .int (zI (be ρ b t i : Int))), (0, .ref (q 18)), (1, .int (zI (b : Int))), (2, .int (zI (n6 t))), (3, .int (zI (n6 (sh ρ b t)))), (4, .int (zI ((mk (snr ρ t) 4 : Nat) : Int))), (5, .int (zI (sT (rs ρ b)))), (7, .int (zI (i : Int)))] dX2_tiredBehind_130 (by decide) rfl 132 rfl ?_
          refine zg_iinc hX [(7, .int (zI ((i : Int) + 1))), (6, .int (zI (n6 (pu (bs ρ b t i) i (be ρ b t i))))), (8, .int (zI (be ρ b t i : Int))), (0, .ref (q 18)), (1, .int (zI (b : Int))), (2, .int (zI (n6 t))), (3, .int (zI (n6 (sh ρ b t)))), (4, .int (zI ((mk (snr ρ t) 4 : Nat) : Int))), (5, .int (zI (sT (rs ρ b))))] 8 rfl dX2_tiredBehind_132 (by decide) rfl 135 rfl ?_
          refine zg_goto hX dX2_tiredBehind_135 38 (by decide) ?_
          exact zg_lv _ [3, 4, 5, 6, 7, 8, 1, 0] rfl (ih38 (i + 1) _ _ (by omega) (by omega) (by rw [bs_step]) (by omega))
  exact zg_lv _ [4, 5, 6, 7, 3, 2, 1, 0] rfl (L38 _ 0 _ _ (Nat.lt_succ_self _) (by omega) (by rw [bs_zero]; exact n6_0.symm) (rfl))
-- Ensemble.lossesFrom
set_option maxRecDepth 20000 in
theorem c_X2_lossesFrom (l : Launch) (D : va_G) (cI : ClassId) (q : Nat → Nat) (f : Nat → Int) (r : Nat → Nat → Int) (ρ : Ru) (t : Nat → Nat) (hρ : RuOK ρ) (hc : cR f r ρ) (ht : tk ρ t) : Cn l D cI yX2_lossesFrom cX2_lossesFrom 6 (some .int) 3 0 0 [.ref (q 18), .int (zI (n6 t))] (cW cI q f r) (pI (n6 (lsv ρ t (rb ρ))) (cW cI q f r)) := by
  refine Cn.of [(0, .ref (q 18)), (1, .int (zI (n6 t)))] (by decide +kernel) (Nat.le_of_ble_eq_true rfl) rfl (fun X hX hR => ?_)
  have hl9 := hρ.1
  have hn4 := hρ.2.1
  have hb6 := hρ.2.2.2.1
  refine zg_iload_n hX 1 rfl dX2_lossesFrom_0 rfl 1 rfl ?_
  refine zg_istore_n hX [(2, .int (zI (n6 t))), (0, .ref (q 18)), (1, .int (zI (n6 t)))] dX2_lossesFrom_1 rfl (by decide) rfl 2 rfl ?_
  refine zg_iconst hX dX2_lossesFrom_2 3 rfl ?_
  refine zg_istore_n hX [(3, .int (zI 0)), (2, .int (zI (n6 t))), (0, .ref (q 18)), (1, .int (zI (n6 t)))] dX2_lossesFrom_3 rfl (by decide) rfl 4 rfl ?_
  refine zg_iconst hX dX2_lossesFrom_4 5 rfl ?_
  refine zg_istore hX [(4, .int (zI 0)), (3, .int (zI 0)), (2, .int (zI (n6 t))), (0, .ref (q 18)), (1, .int (zI (n6 t)))] dX2_lossesFrom_5 (by decide) rfl 7 rfl ?_
  have L7 : ∀ (fuel : Nat) (i : Nat) (x7_2 : Int) (x7_3 : Int) (x7_4 : Int), (rb ρ - i < fuel) → (i ≤ rb ρ) → x7_2 = n6 (ru ρ t i) → x7_3 = n6 (lsv ρ t i) → x7_4 = (i : Int) → G X 6 0 0 (cW cI q f r) [(0, .ref (q 18)), (1, .int (zI (n6 t))), (2, .int (zI x7_2)), (3, .int (zI x7_3)), (4, .int (zI x7_4))] 7 [] := by
    intro fuel
    induction fuel with
    | zero =>
      intro i x7_2 x7_3 x7_4 hm7
      exact absurd hm7 (Nat.not_lt_zero _)
    | succ fuel ih7 =>
      intro i x7_2 x7_3 x7_4 hm7 hi ex7_2 ex7_3 ex7_4
      subst ex7_2
      subst ex7_3
      subst ex7_4
      refine zg_iload hX 4 rfl dX2_lossesFrom_7 9 rfl ?_
      refine zg_aload_n hX 0 rfl dX2_lossesFrom_9 rfl 10 rfl ?_
      refine cg_18_0 hX mw_140 dX2_lossesFrom_10 13 rfl ?_
      refine cg_3_2 hX mw_61 (rb ρ : Int) hc.1 dX2_lossesFrom_13 16 rfl ?_
      refine zg_icmp_ge hX (by omega) (by omega) dX2_lossesFrom_16 67 (by decide) 19 rfl (fun h16 => ?_) (fun h16 => ?_)
      · refine zg_iload_n hX 3 rfl dX2_lossesFrom_67 rfl 68 rfl ?_
        exact zg_iret hX hR (Nat.le_refl _) (Nat.le_refl _) rfl dX2_lossesFrom_68 (pI_of (by rw [show i = rb ρ by omega]))
      · have hsf := sh_facts ρ i (ru ρ t i) hρ
        have hl4 := ls_4 t hρ i
        refine zg_aload_n hX 0 rfl dX2_lossesFrom_19 rfl 20 rfl ?_
        refine zg_iload hX 4 rfl dX2_lossesFrom_20 22 rfl ?_
        refine zg_iload_n hX 2 rfl dX2_lossesFrom_22 rfl 23 rfl ?_
        refine zg_callVi (As := [.int (zI (i : Int)), .int (zI (n6 (ru ρ t i)))]) (rest := []) (k0 := 18) (ci := 2) hX (c_X2_sharesOf l D cI q f r ρ (ru ρ t i) i hρ hc (tk_ru ht i) (by omega)) mw_354 mw_355 mw_356 mw_5 mw_357 sg_X2_sharesOf (by decide) (by decide) (Nat.le_refl _) (Nat.le_refl _) rfl rfl rfl (Nat.le_of_ble_eq_true rfl) dX2_lossesFrom_23 26 rfl ?_
        refine zg_istore hX [(5, .int (zI (n6 (sh ρ i (ru ρ t i))))), (0, .ref (q 18)), (1, .int (zI (n6 t))), (2, .int (zI (n6 (ru ρ t i)))), (3, .int (zI (n6 (lsv ρ t i)))), (4, .int (zI (i : Int)))] dX2_lossesFrom_26 (by decide) rfl 28 rfl ?_
        refine zg_iload_n hX 4 rfl dX2_lossesFrom_28 rfl 29 rfl ?_
        refine zg_iload hX 5 rfl dX2_lossesFrom_29 31 rfl ?_
        refine zg_aload_n hX 1 rfl dX2_lossesFrom_31 rfl 32 rfl ?_
        refine cg_18_0 hX mw_140 dX2_lossesFrom_32 35 rfl ?_
        refine cg_3_1 hX mw_52 dX2_lossesFrom_35 38 rfl ?_
        refine zg_iload hX 5 rfl dX2_lossesFrom_38 40 rfl ?_
        refine ca_5 hX i (rp ρ i : Int) (by omega) (by omega) (hc.2.2.2.2.2.2.2 i (by omega)) dX2_lossesFrom_40 41 rfl ?_
        refine zg_iload hX 0 rfl dX2_lossesFrom_41 43 rfl ?_
        refine zg_callSi (As := [.int (zI (n6 (sh ρ i (ru ρ t i))))]) (rest := [.int (zI (rp ρ i : Int)), .int (zI (i : Int)), .int (zI (n6 (lsv ρ t i)))]) hX (c_X5_sum l D cI _ (sh ρ i (ru ρ t i)) (fun p => by have := hsf.1 p; omega)) mw_378 mw_379 mw_12 mw_380 sg_X5_sum.2 (by decide) (by decide) (Nat.le_refl _) (Nat.le_refl _) rfl (Nat.le_of_ble_eq_true rfl) dX2_lossesFrom_43 46 rfl ?_
        refine zg_isub hX dX2_lossesFrom_46 47 rfl ?_
        have e47 : ((rp ρ i : Int) - (su (sh ρ i (ru ρ t i)) 6 : Int) : Int) = (ls ρ t i : Int) := by unfold ls; omega
        refine zg_to (lv2 := [(5, .int (zI (n6 (sh ρ i (ru ρ t i))))), (0, .ref (q 18)), (1, .int (zI (n6 t))), (2, .int (zI (n6 (ru ρ t i)))), (3, .int (zI (n6 (lsv ρ t i)))), (4, .int (zI (i : Int)))]) (ws2 := (cW cI q f r)) (st2 := [.int (zI (ls ρ t i : Int)), .int (zI (i : Int)), .int (zI (n6 (lsv ρ t i)))]) ?_ rfl rfl (by rw [e47])
        refine zg_callSi (As := [.int (zI (n6 (lsv ρ t i))), .int (zI (i : Int)), .int (zI (ls ρ t i : Int))]) (rest := []) hX (c_X5_with l D cI _ (lsv ρ t i) i (ls ρ t i) (lsv_16 t hρ i) (by omega) (by omega)) mw_375 mw_376 mw_12 mw_377 sg_X5_with.2 (by decide) (by decide) (Nat.le_refl _) (Nat.le_refl _) rfl (Nat.le_of_ble_eq_true rfl) dX2_lossesFrom_47 50 rfl ?_
        refine zg_istore_n hX [(3, .int (zI (n6 (pu (lsv ρ t i) i (ls ρ t i))))), (5, .int (zI (n6 (sh ρ i (ru ρ t i))))), (0, .ref (q 18)), (1, .int (zI (n6 t))), (2, .int (zI (n6 (ru ρ t i)))), (4, .int (zI (i : Int)))] dX2_lossesFrom_50 rfl (by decide) rfl 51 rfl ?_
        refine zg_aload_n hX 2 rfl dX2_lossesFrom_51 rfl 52 rfl ?_
        refine zg_iload hX 5 rfl dX2_lossesFrom_52 54 rfl ?_
        refine zg_iload_n hX 4 rfl dX2_lossesFrom_54 rfl 55 rfl ?_
        refine zg_iload hX 1 rfl dX2_lossesFrom_55 57 rfl ?_
        refine zg_callVi (As := [.int (zI (i : Int)), .int (zI (n6 (ru ρ t i))), .int (zI (n6 (sh ρ i (ru ρ t i))))]) (rest := []) (k0 := 18) (ci := 2) hX (c_X2_tiredBehind l D cI q f r ρ (ru ρ t i) i hρ hc (tk_ru ht i) (by omega)) mw_382 mw_383 mw_384 mw_5 mw_385 sg_X2_tiredBehind (by decide) (by decide) (Nat.le_refl _) (Nat.le_refl _) rfl rfl rfl (Nat.le_of_ble_eq_true rfl) dX2_lossesFrom_57 60 rfl ?_
        refine zg_istore_n hX [(2, .int (zI (n6 (be ρ i (ru ρ t i))))), (3, .int (zI (n6 (pu (lsv ρ t i) i (ls ρ t i))))), (5, .int (zI (n6 (sh ρ i (ru ρ t i))))), (0, .ref (q 18)), (1, .int (zI (n6 t))), (4, .int (zI (i : Int)))] dX2_lossesFrom_60 rfl (by decide) rfl 61 rfl ?_
        refine zg_iinc hX [(4, .int (zI ((i : Int) + 1))), (2, .int (zI (n6 (be ρ i (ru ρ t i))))), (3, .int (zI (n6 (pu (lsv ρ t i) i (ls ρ t i))))), (5, .int (zI (n6 (sh ρ i (ru ρ t i))))), (0, .ref (q 18)), (1, .int (zI (n6 t)))] 5 rfl dX2_lossesFrom_61 (by decide) rfl 64 rfl ?_
        refine zg_goto hX dX2_lossesFrom_64 7 (by decide) ?_
        exact zg_lv _ [4, 5, 1, 2, 0] rfl (ih7 (i + 1) _ _ _ (by omega) (by omega) (rfl) (by rw [lsv_step]) (by omega))
  exact zg_lv _ [3, 4, 2, 1, 0] rfl (L7 _ 0 _ _ _ (Nat.lt_succ_self _) (by omega) (rfl) (by rw [lsv_zero]; exact n6_0.symm) (rfl))
