theorem sg_X8_sortOf : yX8_sortOf.cls = RX8 ∧ yX8_sortOf.cls ≠ "java/lang/invoke/MethodHandle" ∧ yX8_sortOf.cls ≠ "java/lang/invoke/VarHandle" ∧ (parseMethodDescriptor yX8_sortOf.desc).map (fun d => d.parameters.length) = some 1 := by decide +kernel
theorem sg_X7_write : yX7_write.cls = RX7 ∧ yX7_write.cls ≠ "java/lang/invoke/MethodHandle" ∧ yX7_write.cls ≠ "java/lang/invoke/VarHandle" ∧ (parseMethodDescriptor yX7_write.desc).map (fun d => d.parameters.length) = some 1 := by decide +kernel
theorem sg_X7_fits : yX7_fits.cls = RX7 ∧ yX7_fits.cls ≠ "java/lang/invoke/MethodHandle" ∧ yX7_fits.cls ≠ "java/lang/invoke/VarHandle" ∧ (parseMethodDescriptor yX7_fits.desc).map (fun d => d.parameters.length) = some 1 := by decide +kernel
theorem sg_X7_firstFault : yX7_firstFault.cls = RX7 ∧ yX7_firstFault.cls ≠ "java/lang/invoke/MethodHandle" ∧ yX7_firstFault.cls ≠ "java/lang/invoke/VarHandle" ∧ (parseMethodDescriptor yX7_firstFault.desc).map (fun d => d.parameters.length) = some 0 := by decide +kernel
theorem sg_X7_isWhole : yX7_isWhole.cls = RX7 ∧ yX7_isWhole.cls ≠ "java/lang/invoke/MethodHandle" ∧ yX7_isWhole.cls ≠ "java/lang/invoke/VarHandle" ∧ (parseMethodDescriptor yX7_isWhole.desc).map (fun d => d.parameters.length) = some 0 := by decide +kernel
theorem sg_X8_has : yX8_has.cls = RX8 ∧ yX8_has.cls ≠ "java/lang/invoke/MethodHandle" ∧ yX8_has.cls ≠ "java/lang/invoke/VarHandle" ∧ (parseMethodDescriptor yX8_has.desc).map (fun d => d.parameters.length) = some 1 := by decide +kernel
theorem sg_X3_has : yX3_has.cls = RX3 ∧ yX3_has.cls ≠ "java/lang/invoke/MethodHandle" ∧ yX3_has.cls ≠ "java/lang/invoke/VarHandle" ∧ (parseMethodDescriptor yX3_has.desc).map (fun d => d.parameters.length) = some 1 := by decide +kernel
theorem sg_X8_read : yX8_read.cls = RX8 ∧ yX8_read.cls ≠ "java/lang/invoke/MethodHandle" ∧ yX8_read.cls ≠ "java/lang/invoke/VarHandle" ∧ (parseMethodDescriptor yX8_read.desc).map (fun d => d.parameters.length) = some 1 := by decide +kernel
theorem sg_X3_beginAnew : yX3_beginAnew.cls = RX3 ∧ yX3_beginAnew.cls ≠ "java/lang/invoke/MethodHandle" ∧ yX3_beginAnew.cls ≠ "java/lang/invoke/VarHandle" ∧ (parseMethodDescriptor yX3_beginAnew.desc).map (fun d => d.parameters.length) = some 0 := by decide +kernel
theorem sg_X3_welcome : yX3_welcome.cls = RX3 ∧ yX3_welcome.cls ≠ "java/lang/invoke/MethodHandle" ∧ yX3_welcome.cls ≠ "java/lang/invoke/VarHandle" ∧ (parseMethodDescriptor yX3_welcome.desc).map (fun d => d.parameters.length) = some 2 := by decide +kernel
theorem sg_X3_hear : yX3_hear.cls = RX3 ∧ yX3_hear.cls ≠ "java/lang/invoke/MethodHandle" ∧ yX3_hear.cls ≠ "java/lang/invoke/VarHandle" ∧ (parseMethodDescriptor yX3_hear.desc).map (fun d => d.parameters.length) = some 2 := by decide +kernel
theorem sg_X3_lastToldOf : yX3_lastToldOf.cls = RX3 ∧ yX3_lastToldOf.cls ≠ "java/lang/invoke/MethodHandle" ∧ yX3_lastToldOf.cls ≠ "java/lang/invoke/VarHandle" ∧ (parseMethodDescriptor yX3_lastToldOf.desc).map (fun d => d.parameters.length) = some 1 := by decide +kernel
theorem sg_X3_isAsTold : yX3_isAsTold.cls = RX3 ∧ yX3_isAsTold.cls ≠ "java/lang/invoke/MethodHandle" ∧ yX3_isAsTold.cls ≠ "java/lang/invoke/VarHandle" ∧ (parseMethodDescriptor yX3_isAsTold.desc).map (fun d => d.parameters.length) = some 1 := by decide +kernel
theorem sg_X3_coffeesGiven : yX3_coffeesGiven.cls = RX3 ∧ yX3_coffeesGiven.cls ≠ "java/lang/invoke/MethodHandle" ∧ yX3_coffeesGiven.cls ≠ "java/lang/invoke/VarHandle" ∧ (parseMethodDescriptor yX3_coffeesGiven.desc).map (fun d => d.parameters.length) = some 0 := by decide +kernel
theorem sg_X3_takeOver : yX3_takeOver.cls = RX3 ∧ yX3_takeOver.cls ≠ "java/lang/invoke/MethodHandle" ∧ yX3_takeOver.cls ≠ "java/lang/invoke/VarHandle" ∧ (parseMethodDescriptor yX3_takeOver.desc).map (fun d => d.parameters.length) = some 1 := by decide +kernel
-- Score.sortOf
set_option maxRecDepth 20000 in
theorem c_X8_sortOf (l : Launch) (D : va_G) (cI : ClassId) (W0 : va_W) (c : Nat) (hc : c ≤ 1000) : Cn l D cI yX8_sortOf cX8_sortOf 2 (some .int) 0 0 0 [.int (zI (c : Int))] W0 (pI (soc c) W0) := by
  refine Cn.of [(0, .int (zI (c : Int)))] (by decide +kernel) (Nat.le_of_ble_eq_true rfl) rfl (fun X hX hR => ?_)
  refine zg_iconst hX dX8_sortOf_0 1 rfl ?_
  refine zg_istore_n hX [(1, .int (zI 0)), (0, .int (zI (c : Int)))] dX8_sortOf_1 rfl (by decide) rfl 2 rfl ?_
  have L2 : ∀ (fuel : Nat) (i : Nat) (x2_1 : Int), (4 - i < fuel) → (i ≤ 4) → (∀ j, j < i → ¬ sL j = (c : Int)) → x2_1 = (i : Int) → G X 2 0 0 W0 [(0, .int (zI (c : Int))), (1, .int (zI x2_1))] 2 [] := by
    intro fuel
    induction fuel with
    | zero =>
      intro i x2_1 hm2
      exact absurd hm2 (Nat.not_lt_zero _)
    | succ fuel ih2 =>
      intro i x2_1 hm2 hi hno ex2_1
      subst ex2_1
      refine zg_iload_n hX 1 rfl dX8_sortOf_2 rfl 3 rfl ?_
      refine zg_iconst hX dX8_sortOf_3 4 rfl ?_
      refine zg_icmp_ge hX (by omega) (by omega) dX8_sortOf_4 24 (by decide) 7 rfl (fun h4 => ?_) (fun h4 => ?_)
      · refine zg_iconst hX dX8_sortOf_24 25 rfl ?_
        exact zg_iret hX hR (Nat.le_refl _) (Nat.le_refl _) rfl dX8_sortOf_25 (pI_of (soc_no c (fun j hj => hno j (by omega))).symm)
      · refine zg_gets_SORT_LETTERS hX (List.mem_of_getElem? (i := 3) rfl) dX8_sortOf_7 10 rfl (fun t7 ht7 => ?_)
        refine zg_iload_n hX 1 rfl dX8_sortOf_10 rfl 11 rfl ?_
        refine zg_tc hX ht7 (by decide) i (by omega) (by omega) dX8_sortOf_11 12 rfl ?_
        have hsL : 0 ≤ sL i ∧ sL i ≤ 200 := by unfold sL; split <;> decide
        refine zg_iload_n hX 0 rfl dX8_sortOf_12 rfl 13 rfl ?_
        refine zg_icmp_ne hX (by omega) (by omega) dX8_sortOf_13 18 (by decide) 16 rfl (fun h13 => ?_) (fun h13 => ?_)
        · refine zg_iinc hX [(1, .int (zI ((i : Int) + 1))), (0, .int (zI (c : Int)))] 1 rfl dX8_sortOf_18 (by decide) rfl 21 rfl ?_
          refine zg_goto hX dX8_sortOf_21 2 (by decide) ?_
          exact zg_lv _ [1, 0] rfl (ih2 (i + 1) _ (by omega) (by omega) (fun j hj => by
              by_cases hji : j = i
              · subst hji; exact h13
              · exact hno j (by omega)) (by omega))
        · refine zg_iload_n hX 1 rfl dX8_sortOf_16 rfl 17 rfl ?_
          exact zg_iret hX hR (Nat.le_refl _) (Nat.le_refl _) rfl dX8_sortOf_17 (pI_of (soc_at c i (by omega) (by omega)).symm)
  exact zg_lv _ [1, 0] rfl (L2 _ 0 _ (Nat.lt_succ_self _) (by omega) (fun j hj => absurd hj (Nat.not_lt_zero j)) (rfl))
-- Page.write
set_option maxRecDepth 20000 in
theorem c_X7_write (l : Launch) (D : va_G) (cI : ClassId) (q : Nat → Nat) (f : Nat → Int) (r : Nat → Nat → Int) (n : Nat) (c : Int) (hn : f 0 = (n : Int)) (hn22 : n < 22) : Cn l D cI yX7_write cX7_write 2 none 0 0 0 [.ref (q 1), .int (zI c)] (cW cI q f r) (pW none (cW cI q (pu f 0 ((n : Int) + 1)) (pu r 0 (pu (r 0) n c)))) := by
  refine Cn.of [(0, .ref (q 1)), (1, .int (zI c))] (by decide +kernel) (Nat.le_of_ble_eq_true rfl) rfl (fun X hX hR => ?_)
  refine zg_aload_n hX 0 rfl dX7_write_0 rfl 1 rfl ?_
  refine cg_1_1 hX mw_32 (n : Int) hn dX7_write_1 4 rfl ?_
  refine zg_bipush hX dX7_write_4 6 rfl (by decide) ?_
  refine zg_icmp_ge hX (by omega) (by omega) dX7_write_6 29 (by decide) 9 rfl (fun h6 => ?_) (fun h6 => ?_)
  · omega
  · refine zg_aload_n hX 0 rfl dX7_write_9 rfl 10 rfl ?_
    refine cg_1_0 hX mw_29 dX7_write_10 13 rfl ?_
    refine zg_aload_n hX 0 rfl dX7_write_13 rfl 14 rfl ?_
    refine cg_1_1 hX mw_32 (n : Int) hn dX7_write_14 17 rfl ?_
    refine zg_iload_n hX 1 rfl dX7_write_17 rfl 18 rfl ?_
    refine cs_2 hX n (by omega) (by omega) dX7_write_18 19 rfl ?_
    refine zg_aload_n hX 0 rfl dX7_write_19 rfl 20 rfl ?_
    refine zg_dup hX rfl dX7_write_20 21 rfl ?_
    refine cg_1_1 hX mw_32 (n : Int) hn dX7_write_21 24 rfl ?_
    refine zg_iconst hX dX7_write_24 25 rfl ?_
    refine zg_iadd hX dX7_write_25 26 rfl ?_
    refine cp_1_1 hX mw_32 dX7_write_26 29 rfl ?_
    exact zg_vret hX hR (Nat.le_refl _) (Nat.le_refl _) rfl dX7_write_29 (⟨rfl, rfl⟩)
-- Page.fits
set_option maxRecDepth 20000 in
theorem c_X7_fits (l : Launch) (D : va_G) (cI : ClassId) (q : Nat → Nat) (f : Nat → Int) (r : Nat → Nat → Int) (n : Nat) (g : Nat → Nat) (k : Nat) (hn : f 0 = (n : Int)) (hn22 : n ≤ 22) (hg : ∀ j, j < n → r 0 j = (g j : Int)) (hg6 : ∀ j, g j ≤ 126) (hk : k < n) : Cn l D cI yX7_fits cX7_fits 3 (some .boolean) 1 0 0 [.ref (q 1), .int (zI (k : Int))] (cW cI q f r) (pI (b2 (okc g k)) (cW cI q f r)) := by
  refine Cn.of [(0, .ref (q 1)), (1, .int (zI (k : Int)))] (by decide +kernel) (Nat.le_of_ble_eq_true rfl) rfl (fun X hX hR => ?_)
  have hgk := hg6 k
  have hgk1 := hg6 (k - 1)
  have hgk2 := hg6 (k - 2)
  have hso := soc_rng (g k)
  refine zg_aload_n hX 0 rfl dX7_fits_0 rfl 1 rfl ?_
  refine cg_1_0 hX mw_29 dX7_fits_1 4 rfl ?_
  refine zg_iload_n hX 1 rfl dX7_fits_4 rfl 5 rfl ?_
  refine ca_2 hX k (g k : Int) (by omega) (by omega) (hg k hk) dX7_fits_5 6 rfl ?_
  refine zg_istore_n hX [(2, .int (zI (g k : Int))), (0, .ref (q 1)), (1, .int (zI (k : Int)))] dX7_fits_6 rfl (by decide) rfl 7 rfl ?_
  refine zg_iload_n hX 2 rfl dX7_fits_7 rfl 8 rfl ?_
  refine zg_iconst hX dX7_fits_8 9 rfl ?_
  have K27 : (¬ (2 ≤ k ∧ g (k - 2) = 59)) → G X 3 0 0 (cW cI q f r) [(2, .int (zI (g k : Int))), (0, .ref (q 1)), (1, .int (zI (k : Int)))] 27 [] := by
    intro hA
    refine zg_iload_n hX 2 rfl dX7_fits_27 rfl 28 rfl ?_
    refine zg_iconst hX dX7_fits_28 29 rfl ?_
    have K63 : (¬ (1 ≤ k ∧ g (k - 1) = 59)) → G X 3 0 0 (cW cI q f r) [(2, .int (zI (g k : Int))), (0, .ref (q 1)), (1, .int (zI (k : Int)))] 63 [] := by
      intro hB
      refine zg_iload_n hX 2 rfl dX7_fits_63 rfl 64 rfl ?_
      refine zg_iconst hX dX7_fits_64 65 rfl ?_
      refine zg_irem hX ((k % 3 : Nat) : Int) (by decide) (pk_rem (by omega) (by decide) (by decide)) dX7_fits_65 66 rfl ?_
      rcases (show ((k % 3 : Nat) : Int) = 0 ∨ ((k % 3 : Nat) : Int) = 1 ∨ (¬ ((k % 3 : Nat) : Int) = 0 ∧ ¬ ((k % 3 : Nat) : Int) = 1) from by omega) with hs66 | hs66 | hs66
      · refine zg_lookup (off := 26) hX (by omega) dX7_fits_66 (by decide +kernel) (by rw [hs66]; rfl) 92 (by decide) ?_
        refine zg_iload_n hX 0 rfl dX7_fits_92 rfl 93 rfl ?_
        refine zg_callSi (As := [.int (zI (g k : Int))]) (rest := []) hX (c_X8_sortOf l D cI _ (g k) (by omega)) mw_313 mw_314 mw_3 mw_315 sg_X8_sortOf.2 (by decide) (by decide) (Nat.le_refl _) (Nat.le_refl _) rfl (Nat.le_of_ble_eq_true rfl) dX7_fits_93 96 rfl ?_
        refine zg_iconst hX dX7_fits_96 97 rfl ?_
        refine zg_icmp_eq hX (by omega) (by omega) dX7_fits_97 104 (by decide) 100 rfl (fun h97 => ?_) (fun h97 => ?_)
        · have hres : okc g k = false := by unfold okc; rw [if_neg hA, if_neg hB, if_pos (by omega)]; exact decide_eq_false (by omega)
          refine zg_iconst hX dX7_fits_104 105 rfl ?_
          exact zg_zret hX hR (Nat.le_refl _) (Nat.le_refl _) (by decide) rfl dX7_fits_105 (by first | exact pB_t hres | exact pB_f hres)
        · have hres : okc g k = true := by unfold okc; rw [if_neg hA, if_neg hB, if_pos (by omega)]; exact decide_eq_true (by omega)
          refine zg_iconst hX dX7_fits_100 101 rfl ?_
          refine zg_goto hX dX7_fits_101 105 (by decide) ?_
          exact zg_zret hX hR (Nat.le_refl _) (Nat.le_refl _) (by decide) rfl dX7_fits_105 (by first | exact pB_t hres | exact pB_f hres)
      · refine zg_lookup (off := 40) hX (by omega) dX7_fits_66 (by decide +kernel) (by rw [hs66]; rfl) 106 (by decide) ?_
        refine zg_iload_n hX 0 rfl dX7_fits_106 rfl 107 rfl ?_
        refine zg_bipush hX dX7_fits_107 109 rfl (by decide) ?_
        refine zg_icmp_lt hX (by omega) (by omega) dX7_fits_109 122 (by decide) 112 rfl (fun h109 => ?_) (fun h109 => ?_)
        · have hres : okc g k = false := by unfold okc; rw [if_neg hA, if_neg hB, if_neg (by omega), if_pos (by omega)]; exact decide_eq_false (by omega)
          refine zg_iconst hX dX7_fits_122 123 rfl ?_
          exact zg_zret hX hR (Nat.le_refl _) (Nat.le_refl _) (by decide) rfl dX7_fits_123 (by first | exact pB_t hres | exact pB_f hres)
        · refine zg_iload_n hX 0 rfl dX7_fits_112 rfl 113 rfl ?_
          refine zg_bipush hX dX7_fits_113 115 rfl (by decide) ?_
          refine zg_icmp_gt hX (by omega) (by omega) dX7_fits_115 122 (by decide) 118 rfl (fun h115 => ?_) (fun h115 => ?_)
          · have hres : okc g k = false := by unfold okc; rw [if_neg hA, if_neg hB, if_neg (by omega), if_pos (by omega)]; exact decide_eq_false (by omega)
            refine zg_iconst hX dX7_fits_122 123 rfl ?_
            exact zg_zret hX hR (Nat.le_refl _) (Nat.le_refl _) (by decide) rfl dX7_fits_123 (by first | exact pB_t hres | exact pB_f hres)
          · have hres : okc g k = true := by unfold okc; rw [if_neg hA, if_neg hB, if_neg (by omega), if_pos (by omega)]; exact decide_eq_true (by omega)
            refine zg_iconst hX dX7_fits_118 119 rfl ?_
            refine zg_goto hX dX7_fits_119 123 (by decide) ?_
            exact zg_zret hX hR (Nat.le_refl _) (Nat.le_refl _) (by decide) rfl dX7_fits_123 (by first | exact pB_t hres | exact pB_f hres)
      · refine zg_lookup (off := 58) hX (by omega) dX7_fits_66 (by decide +kernel) (by simp [Op.lookupswitch.offset]; rw [if_neg (by omega), if_neg (by omega)]) 124 (by decide) ?_
        refine zg_iload_n hX 0 rfl dX7_fits_124 rfl 125 rfl ?_
        refine zg_bipush hX dX7_fits_125 127 rfl (by decide) ?_
        refine zg_icmp_eq hX (by omega) (by omega) dX7_fits_127 146 (by decide) 130 rfl (fun h127 => ?_) (fun h127 => ?_)
        · have hres : okc g k = true := by unfold okc; rw [if_neg hA, if_neg hB, if_neg (by omega), if_neg (by omega)]; exact decide_eq_true (by omega)
          refine zg_iconst hX dX7_fits_146 147 rfl ?_
          refine zg_goto hX dX7_fits_147 151 (by decide) ?_
          exact zg_zret hX hR (Nat.le_refl _) (Nat.le_refl _) (by decide) rfl dX7_fits_151 (by first | exact pB_t hres | exact pB_f hres)
        · refine zg_iload_n hX 0 rfl dX7_fits_130 rfl 131 rfl ?_
          refine zg_bipush hX dX7_fits_131 133 rfl (by decide) ?_
          refine zg_icmp_ne hX (by omega) (by omega) dX7_fits_133 150 (by decide) 136 rfl (fun h133 => ?_) (fun h133 => ?_)
          · have hres : okc g k = false := by unfold okc; rw [if_neg hA, if_neg hB, if_neg (by omega), if_neg (by omega)]; exact decide_eq_false (by omega)
            refine zg_iconst hX dX7_fits_150 151 rfl ?_
            exact zg_zret hX hR (Nat.le_refl _) (Nat.le_refl _) (by decide) rfl dX7_fits_151 (by first | exact pB_t hres | exact pB_f hres)
          · refine zg_iload_n hX 2 rfl dX7_fits_136 rfl 137 rfl ?_
            refine zg_iconst hX dX7_fits_137 138 rfl ?_
            refine zg_idiv hX ((k / 3 : Nat) : Int) (by decide) (pk_div (by omega) (by decide) (by decide)) dX7_fits_138 139 rfl ?_
            refine zg_iconst hX dX7_fits_139 140 rfl ?_
            refine zg_iadd hX dX7_fits_140 141 rfl ?_
            refine zg_bipush hX dX7_fits_141 143 rfl (by decide) ?_
            refine zg_icmp_ge hX (by omega) (by omega) dX7_fits_143 150 (by decide) 146 rfl (fun h143 => ?_) (fun h143 => ?_)
            · have hres : okc g k = false := by unfold okc; rw [if_neg hA, if_neg hB, if_neg (by omega), if_neg (by omega)]; exact decide_eq_false (by omega)
              refine zg_iconst hX dX7_fits_150 151 rfl ?_
              exact zg_zret hX hR (Nat.le_refl _) (Nat.le_refl _) (by decide) rfl dX7_fits_151 (by first | exact pB_t hres | exact pB_f hres)
            · have hres : okc g k = true := by unfold okc; rw [if_neg hA, if_neg hB, if_neg (by omega), if_neg (by omega)]; exact decide_eq_true (by omega)
              refine zg_iconst hX dX7_fits_146 147 rfl ?_
              refine zg_goto hX dX7_fits_147 151 (by decide) ?_
              exact zg_zret hX hR (Nat.le_refl _) (Nat.le_refl _) (by decide) rfl dX7_fits_151 (by first | exact pB_t hres | exact pB_f hres)
    refine zg_icmp_lt hX (by omega) (by omega) dX7_fits_29 63 (by decide) 32 rfl (fun h29 => ?_) (fun h29 => ?_)
    · exact K63 (by omega)
    · refine zg_aload_n hX 1 rfl dX7_fits_32 rfl 33 rfl ?_
      refine cg_1_0 hX mw_29 dX7_fits_33 36 rfl ?_
      refine zg_iload_n hX 2 rfl dX7_fits_36 rfl 37 rfl ?_
      refine zg_iconst hX dX7_fits_37 38 rfl ?_
      refine zg_isub hX dX7_fits_38 39 rfl ?_
      refine ca_2 hX (k - 1) (g (k - 1) : Int) (by omega) (by omega) (hg _ (by omega)) dX7_fits_39 40 rfl ?_
      refine zg_bipush hX dX7_fits_40 42 rfl (by decide) ?_
      refine zg_icmp_ne hX (by omega) (by omega) dX7_fits_42 63 (by decide) 45 rfl (fun h42 => ?_) (fun h42 => ?_)
      · exact K63 (by omega)
      · refine zg_iload_n hX 0 rfl dX7_fits_45 rfl 46 rfl ?_
        refine zg_bipush hX dX7_fits_46 48 rfl (by decide) ?_
        refine zg_icmp_lt hX (by omega) (by omega) dX7_fits_48 61 (by decide) 51 rfl (fun h48 => ?_) (fun h48 => ?_)
        · have hres : okc g k = false := by unfold okc; rw [if_neg hA, if_pos ⟨by omega, by omega⟩]; exact decide_eq_false (by omega)
          refine zg_iconst hX dX7_fits_61 62 rfl ?_
          exact zg_zret hX hR (Nat.le_refl _) (Nat.le_refl _) (by decide) rfl dX7_fits_62 (by first | exact pB_t hres | exact pB_f hres)
        · refine zg_iload_n hX 0 rfl dX7_fits_51 rfl 52 rfl ?_
          refine zg_bipush hX dX7_fits_52 54 rfl (by decide) ?_
          refine zg_icmp_gt hX (by omega) (by omega) dX7_fits_54 61 (by decide) 57 rfl (fun h54 => ?_) (fun h54 => ?_)
          · have hres : okc g k = false := by unfold okc; rw [if_neg hA, if_pos ⟨by omega, by omega⟩]; exact decide_eq_false (by omega)
            refine zg_iconst hX dX7_fits_61 62 rfl ?_
            exact zg_zret hX hR (Nat.le_refl _) (Nat.le_refl _) (by decide) rfl dX7_fits_62 (by first | exact pB_t hres | exact pB_f hres)
          · have hres : okc g k = true := by unfold okc; rw [if_neg hA, if_pos ⟨by omega, by omega⟩]; exact decide_eq_true (by omega)
            refine zg_iconst hX dX7_fits_57 58 rfl ?_
            refine zg_goto hX dX7_fits_58 62 (by decide) ?_
            exact zg_zret hX hR (Nat.le_refl _) (Nat.le_refl _) (by decide) rfl dX7_fits_62 (by first | exact pB_t hres | exact pB_f hres)
  refine zg_icmp_lt hX (by omega) (by omega) dX7_fits_9 27 (by decide) 12 rfl (fun h9 => ?_) (fun h9 => ?_)
  · exact K27 (by omega)
  · refine zg_aload_n hX 1 rfl dX7_fits_12 rfl 13 rfl ?_
    refine cg_1_0 hX mw_29 dX7_fits_13 16 rfl ?_
    refine zg_iload_n hX 2 rfl dX7_fits_16 rfl 17 rfl ?_
    refine zg_iconst hX dX7_fits_17 18 rfl ?_
    refine zg_isub hX dX7_fits_18 19 rfl ?_
    refine ca_2 hX (k - 2) (g (k - 2) : Int) (by omega) (by omega) (hg _ (by omega)) dX7_fits_19 20 rfl ?_
    refine zg_bipush hX dX7_fits_20 22 rfl (by decide) ?_
    refine zg_icmp_ne hX (by omega) (by omega) dX7_fits_22 27 (by decide) 25 rfl (fun h22 => ?_) (fun h22 => ?_)
    · exact K27 (by omega)
    · have hres : okc g k = false := by unfold okc; rw [if_pos ⟨by omega, by omega⟩]
      refine zg_iconst hX dX7_fits_25 26 rfl ?_
      exact zg_zret hX hR (Nat.le_refl _) (Nat.le_refl _) (by decide) rfl dX7_fits_26 (by first | exact pB_t hres | exact pB_f hres)
-- Page.firstFault
set_option maxRecDepth 20000 in
theorem c_X7_firstFault (l : Launch) (D : va_G) (cI : ClassId) (q : Nat → Nat) (f : Nat → Int) (r : Nat → Nat → Int) (n : Nat) (g : Nat → Nat) (hn : f 0 = (n : Int)) (hn22 : n ≤ 22) (hg : ∀ j, j < n → r 0 j = (g j : Int)) (hg6 : ∀ j, g j ≤ 126) : Cn l D cI yX7_firstFault cX7_firstFault 2 (some .int) 2 0 0 [.ref (q 1)] (cW cI q f r) (pI (ft g 0 n : Int) (cW cI q f r)) := by
  refine Cn.of [(0, .ref (q 1))] (by decide +kernel) (Nat.le_of_ble_eq_true rfl) rfl (fun X hX hR => ?_)
  refine zg_iconst hX dX7_firstFault_0 1 rfl ?_
  refine zg_istore_n hX [(1, .int (zI 0)), (0, .ref (q 1))] dX7_firstFault_1 rfl (by decide) rfl 2 rfl ?_
  have L2 : ∀ (fuel : Nat) (i : Nat) (x2_1 : Int), (n - i < fuel) → (i ≤ n) → (ft g 0 n = ft g i (n - i)) → x2_1 = (i : Int) → G X 2 0 0 (cW cI q f r) [(0, .ref (q 1)), (1, .int (zI x2_1))] 2 [] := by
    intro fuel
    induction fuel with
    | zero =>
      intro i x2_1 hm2
      exact absurd hm2 (Nat.not_lt_zero _)
    | succ fuel ih2 =>
      intro i x2_1 hm2 hi hf ex2_1
      subst ex2_1
      refine zg_iload_n hX 1 rfl dX7_firstFault_2 rfl 3 rfl ?_
      refine zg_aload_n hX 0 rfl dX7_firstFault_3 rfl 4 rfl ?_
      refine cg_1_1 hX mw_32 (n : Int) hn dX7_firstFault_4 7 rfl ?_
      refine zg_icmp_ge hX (by omega) (by omega) dX7_firstFault_7 26 (by decide) 10 rfl (fun h7 => ?_) (fun h7 => ?_)
      · refine zg_aload_n hX 0 rfl dX7_firstFault_26 rfl 27 rfl ?_
        refine cg_1_1 hX mw_32 (n : Int) hn dX7_firstFault_27 30 rfl ?_
        exact zg_iret hX hR (Nat.le_refl _) (Nat.le_refl _) rfl dX7_firstFault_30 (pI_of (by rw [hf, show n - i = 0 by omega]; simp only [ft]; omega))
      · refine zg_aload_n hX 0 rfl dX7_firstFault_10 rfl 11 rfl ?_
        refine zg_iload_n hX 1 rfl dX7_firstFault_11 rfl 12 rfl ?_
        refine zg_callVi (As := [.int (zI (i : Int))]) (rest := []) (k0 := 1) (ci := 6) hX (c_X7_fits l D cI q f r n g i hn hn22 hg hg6 (by omega)) mw_309 mw_311 mw_s0 mw_2 mw_312 sg_X7_fits (by decide) (by decide) (Nat.le_refl _) (Nat.le_refl _) rfl rfl rfl (Nat.le_of_ble_eq_true rfl) dX7_firstFault_12 15 rfl ?_
        refine zg_ifb_ne hX dX7_firstFault_15 20 (by decide) 18 rfl (fun h15 => ?_) (fun h15 => ?_)
        · refine zg_iinc hX [(1, .int (zI ((i : Int) + 1))), (0, .ref (q 1))] 1 rfl dX7_firstFault_20 (by decide) rfl 23 rfl ?_
          refine zg_goto hX dX7_firstFault_23 2 (by decide) ?_
          exact zg_lv _ [1, 0] rfl (ih2 (i + 1) _ (by omega) (by omega) (by rw [hf, show n - i = (n - (i + 1)) + 1 by omega]; simp only [ft]; rw [if_pos h15]) (by omega))
        · refine zg_iload_n hX 1 rfl dX7_firstFault_18 rfl 19 rfl ?_
          exact zg_iret hX hR (Nat.le_refl _) (Nat.le_refl _) rfl dX7_firstFault_19 (pI_of (by rw [hf, show n - i = (n - (i + 1)) + 1 by omega]; simp only [ft]; rw [if_neg (by rw [h15]; decide)]))
  exact zg_lv _ [1, 0] rfl (L2 _ 0 _ (Nat.lt_succ_self _) (by omega) (rfl) (rfl))
-- Page.isWhole
set_option maxRecDepth 20000 in
theorem c_X7_isWhole (l : Launch) (D : va_G) (cI : ClassId) (q : Nat → Nat) (f : Nat → Int) (r : Nat → Nat → Int) (n : Nat) (g : Nat → Nat) (hn : f 0 = (n : Int)) (hn22 : n ≤ 22) (hg : ∀ j, j < n → r 0 j = (g j : Int)) (hg6 : ∀ j, g j ≤ 126) : Cn l D cI yX7_isWhole cX7_isWhole 1 (some .boolean) 3 0 0 [.ref (q 1)] (cW cI q f r) (pI (b2 (decide (2 ≤ n ∧ g (n - 2) = 59 ∧ ft g 0 n = n))) (cW cI q f r)) := by
  refine Cn.of [(0, .ref (q 1))] (by decide +kernel) (Nat.le_of_ble_eq_true rfl) rfl (fun X hX hR => ?_)
  have hfr := ft_rng g 0 n
  have hg2 := hg6 (n - 2)
  refine zg_aload_n hX 0 rfl dX7_isWhole_0 rfl 1 rfl ?_
  refine cg_1_1 hX mw_32 (n : Int) hn dX7_isWhole_1 4 rfl ?_
  refine zg_iconst hX dX7_isWhole_4 5 rfl ?_
  refine zg_icmp_lt hX (by omega) (by omega) dX7_isWhole_5 39 (by decide) 8 rfl (fun h5 => ?_) (fun h5 => ?_)
  · have hres : (decide (2 ≤ n ∧ g (n - 2) = 59 ∧ ft g 0 n = n)) = false := decide_eq_false (by omega)
    refine zg_iconst hX dX7_isWhole_39 40 rfl ?_
    exact zg_zret hX hR (Nat.le_refl _) (Nat.le_refl _) (by decide) rfl dX7_isWhole_40 (by first | exact pB_t hres | exact pB_f hres)
  · refine zg_aload_n hX 0 rfl dX7_isWhole_8 rfl 9 rfl ?_
    refine cg_1_0 hX mw_29 dX7_isWhole_9 12 rfl ?_
    refine zg_aload_n hX 0 rfl dX7_isWhole_12 rfl 13 rfl ?_
    refine cg_1_1 hX mw_32 (n : Int) hn dX7_isWhole_13 16 rfl ?_
    refine zg_iconst hX dX7_isWhole_16 17 rfl ?_
    refine zg_isub hX dX7_isWhole_17 18 rfl ?_
    refine ca_2 hX (n - 2) (g (n - 2) : Int) (by omega) (by omega) (hg _ (by omega)) dX7_isWhole_18 19 rfl ?_
    refine zg_bipush hX dX7_isWhole_19 21 rfl (by decide) ?_
    refine zg_icmp_ne hX (by omega) (by omega) dX7_isWhole_21 39 (by decide) 24 rfl (fun h21 => ?_) (fun h21 => ?_)
    · have hres : (decide (2 ≤ n ∧ g (n - 2) = 59 ∧ ft g 0 n = n)) = false := decide_eq_false (by omega)
      refine zg_iconst hX dX7_isWhole_39 40 rfl ?_
      exact zg_zret hX hR (Nat.le_refl _) (Nat.le_refl _) (by decide) rfl dX7_isWhole_40 (by first | exact pB_t hres | exact pB_f hres)
    · refine zg_aload_n hX 0 rfl dX7_isWhole_24 rfl 25 rfl ?_
      refine zg_callVi (As := []) (rest := []) (k0 := 1) (ci := 6) hX (c_X7_firstFault l D cI q f r n g hn hn22 hg hg6) mw_326 mw_306 mw_307 mw_2 mw_308 sg_X7_firstFault (by decide) (by decide) (Nat.le_refl _) (Nat.le_refl _) rfl rfl rfl (Nat.le_of_ble_eq_true rfl) dX7_isWhole_25 28 rfl ?_
      refine zg_aload_n hX 0 rfl dX7_isWhole_28 rfl 29 rfl ?_
      refine cg_1_1 hX mw_32 (n : Int) hn dX7_isWhole_29 32 rfl ?_
      refine zg_icmp_ne hX (by omega) (by omega) dX7_isWhole_32 39 (by decide) 35 rfl (fun h32 => ?_) (fun h32 => ?_)
      · have hres : (decide (2 ≤ n ∧ g (n - 2) = 59 ∧ ft g 0 n = n)) = false := decide_eq_false (by omega)
        refine zg_iconst hX dX7_isWhole_39 40 rfl ?_
        exact zg_zret hX hR (Nat.le_refl _) (Nat.le_refl _) (by decide) rfl dX7_isWhole_40 (by first | exact pB_t hres | exact pB_f hres)
      · have hres : (decide (2 ≤ n ∧ g (n - 2) = 59 ∧ ft g 0 n = n)) = true := decide_eq_true (by omega)
        refine zg_iconst hX dX7_isWhole_35 36 rfl ?_
        refine zg_goto hX dX7_isWhole_36 40 (by decide) ?_
        exact zg_zret hX hR (Nat.le_refl _) (Nat.le_refl _) (by decide) rfl dX7_isWhole_40 (by first | exact pB_t hres | exact pB_f hres)
-- Score.has
set_option maxRecDepth 20000 in
theorem c_X8_has (l : Launch) (D : va_G) (cI : ClassId) (q : Nat → Nat) (f : Nat → Int) (r : Nat → Nat → Int) (n : Nat) (a : Int) (hn : f 1 = (n : Int)) (hn22 : n ≤ 22) (ha : -2147483648 ≤ a ∧ a < 2147483648) : Cn l D cI yX8_has cX8_has 2 (some .boolean) 0 0 0 [.ref (q 3), .int (zI a)] (cW cI q f r) (pI (b2 (decide (0 ≤ a ∧ a < (n : Int)))) (cW cI q f r)) := by
  refine Cn.of [(0, .ref (q 3)), (1, .int (zI a))] (by decide +kernel) (Nat.le_of_ble_eq_true rfl) rfl (fun X hX hR => ?_)
  refine zg_iload_n hX 1 rfl dX8_has_0 rfl 1 rfl ?_
  refine zg_if_lt hX (by omega) dX8_has_1 16 (by decide) 4 rfl (fun h1 => ?_) (fun h1 => ?_)
  · have hres : decide (0 ≤ a ∧ a < (n : Int)) = false := decide_eq_false (by omega)
    refine zg_iconst hX dX8_has_16 17 rfl ?_
    exact zg_zret hX hR (Nat.le_refl _) (Nat.le_refl _) (by decide) rfl dX8_has_17 (by first | exact pB_t hres | exact pB_f hres)
  · refine zg_iload_n hX 1 rfl dX8_has_4 rfl 5 rfl ?_
    refine zg_aload_n hX 0 rfl dX8_has_5 rfl 6 rfl ?_
    refine cg_3_2 hX mw_56 (n : Int) hn dX8_has_6 9 rfl ?_
    refine zg_icmp_ge hX (by omega) (by omega) dX8_has_9 16 (by decide) 12 rfl (fun h9 => ?_) (fun h9 => ?_)
    · have hres : decide (0 ≤ a ∧ a < (n : Int)) = false := decide_eq_false (by omega)
      refine zg_iconst hX dX8_has_16 17 rfl ?_
      exact zg_zret hX hR (Nat.le_refl _) (Nat.le_refl _) (by decide) rfl dX8_has_17 (by first | exact pB_t hres | exact pB_f hres)
    · have hres : decide (0 ≤ a ∧ a < (n : Int)) = true := decide_eq_true (by omega)
      refine zg_iconst hX dX8_has_12 13 rfl ?_
      refine zg_goto hX dX8_has_13 17 (by decide) ?_
      exact zg_zret hX hR (Nat.le_refl _) (Nat.le_refl _) (by decide) rfl dX8_has_17 (by first | exact pB_t hres | exact pB_f hres)
-- Evening.has
set_option maxRecDepth 20000 in
theorem c_X3_has (l : Launch) (D : va_G) (cI : ClassId) (q : Nat → Nat) (f : Nat → Int) (r : Nat → Nat → Int) (n : Nat) (a : Int) (hn : f 4 = (n : Int)) (hn22 : n ≤ 22) (ha : -2147483648 ≤ a ∧ a < 2147483648) : Cn l D cI yX3_has cX3_has 2 (some .boolean) 0 0 0 [.ref (q 6), .int (zI a)] (cW cI q f r) (pI (b2 (decide (0 ≤ a ∧ a < (n : Int)))) (cW cI q f r)) := by
  refine Cn.of [(0, .ref (q 6)), (1, .int (zI a))] (by decide +kernel) (Nat.le_of_ble_eq_true rfl) rfl (fun X hX hR => ?_)
  refine zg_iload_n hX 1 rfl dX3_has_0 rfl 1 rfl ?_
  refine zg_if_lt hX (by omega) dX3_has_1 16 (by decide) 4 rfl (fun h1 => ?_) (fun h1 => ?_)
  · have hres : decide (0 ≤ a ∧ a < (n : Int)) = false := decide_eq_false (by omega)
    refine zg_iconst hX dX3_has_16 17 rfl ?_
    exact zg_zret hX hR (Nat.le_refl _) (Nat.le_refl _) (by decide) rfl dX3_has_17 (by first | exact pB_t hres | exact pB_f hres)
  · refine zg_iload_n hX 1 rfl dX3_has_4 rfl 5 rfl ?_
    refine zg_aload_n hX 0 rfl dX3_has_5 rfl 6 rfl ?_
    refine cg_6_6 hX mw_91 (n : Int) hn dX3_has_6 9 rfl ?_
    refine zg_icmp_ge hX (by omega) (by omega) dX3_has_9 16 (by decide) 12 rfl (fun h9 => ?_) (fun h9 => ?_)
    · have hres : decide (0 ≤ a ∧ a < (n : Int)) = false := decide_eq_false (by omega)
      refine zg_iconst hX dX3_has_16 17 rfl ?_
      exact zg_zret hX hR (Nat.le_refl _) (Nat.le_refl _) (by decide) rfl dX3_has_17 (by first | exact pB_t hres | exact pB_f hres)
    · have hres : decide (0 ≤ a ∧ a < (n : Int)) = true := decide_eq_true (by omega)
      refine zg_iconst hX dX3_has_12 13 rfl ?_
      refine zg_goto hX dX3_has_13 17 (by decide) ?_
      exact zg_zret hX hR (Nat.le_refl _) (Nat.le_refl _) (by decide) rfl dX3_has_17 (by first | exact pB_t hres | exact pB_f hres)
-- Score.read
set_option maxRecDepth 20000 in
theorem c_X8_read (l : Launch) (D : va_G) (cI : ClassId) (q : Nat → Nat) (f : Nat → Int) (r : Nat → Nat → Int) (n : Nat) (g : Nat → Nat) (hn : f 0 = (n : Int)) (hn22 : n ≤ 22) (hg : ∀ j, j < n → r 0 j = (g j : Int)) (hg6 : ∀ j, g j ≤ 126) (hw : 3 * (min 6 (n / 3)) < n) : Cn l D cI yX8_read cX8_read 3 none 1 0 0 [.ref (q 3), .ref (q 1)] (cW cI q f r) (pR (cW cI q (pu (pu f 1 ((min 6 (n / 3) : Nat) : Int)) 2 ((g (3 * (min 6 (n / 3))) : Int) - 48))) (fun v r1 => v = none ∧ (∀ k, k ≠ 1 → k ≠ 2 → r1 k = r k) ∧ (∀ b, b < min 6 (n / 3) → r1 1 b = (if 0 < soc (g (3 * b)) then soc (g (3 * b)) else 0)) ∧ ∀ b, b < min 6 (n / 3) → r1 2 b = (g (3 * b + 1) : Int) - 48)) := by
  refine Cn.of [(0, .ref (q 3)), (1, .ref (q 1))] (by decide +kernel) (Nat.le_of_ble_eq_true rfl) rfl (fun X hX hR => ?_)
  refine zg_aload_n hX 0 rfl dX8_read_0 rfl 1 rfl ?_
  refine zg_bipush hX dX8_read_1 3 rfl (by decide) ?_
  refine zg_aload_n hX 1 rfl dX8_read_3 rfl 4 rfl ?_
  refine cg_1_1 hX mw_34 (n : Int) hn dX8_read_4 7 rfl ?_
  refine zg_iconst hX dX8_read_7 8 rfl ?_
  refine zg_idiv hX ((n / 3 : Nat) : Int) (by decide) (pk_div (by omega) (by decide) (by decide)) dX8_read_8 9 rfl ?_
  refine zg_mmin hX (by omega) (by omega) mw_331 mw_332 mw_11 mw_333 (by omega) (Nat.le_refl _) (Nat.le_refl _) (Nat.le_of_ble_eq_true rfl) dX8_read_9 12 rfl ?_
  have e12 : (if ((n / 3 : Nat) : Int) < 6 then ((n / 3 : Nat) : Int) else 6 : Int) = ((min 6 (n / 3) : Nat) : Int) := by split <;> omega
  refine zg_to (lv2 := [(0, .ref (q 3)), (1, .ref (q 1))]) (ws2 := (cW cI q f r)) (st2 := [.int (zI ((min 6 (n / 3) : Nat) : Int)), .ref (q 3)]) ?_ rfl rfl (by rw [e12])
  refine cp_3_2 hX mw_56 dX8_read_12 15 rfl ?_
  refine zg_iconst hX dX8_read_15 16 rfl ?_
  refine zg_istore_n hX [(2, .int (zI 0)), (0, .ref (q 3)), (1, .ref (q 1))] dX8_read_16 rfl (by decide) rfl 17 rfl ?_
  have L17 : ∀ (fuel : Nat) (i : Nat) (R1 : Nat → Nat → Int) (x17_2 : Int), (min 6 (n / 3) - i < fuel) → (i ≤ min 6 (n / 3)) → (∀ k, k ≠ 1 → k ≠ 2 → R1 k = r k) → (∀ b, b < i → R1 1 b = (if 0 < soc (g (3 * b)) then soc (g (3 * b)) else 0)) → (∀ b, b < i → R1 2 b = (g (3 * b + 1) : Int) - 48) → x17_2 = (i : Int) → G X 3 0 0 (cW cI q (pu f 1 ((min 6 (n / 3) : Nat) : Int)) R1) [(0, .ref (q 3)), (1, .ref (q 1)), (2, .int (zI x17_2))] 17 [] := by
    intro fuel
    induction fuel with
    | zero =>
      intro i R1 x17_2 hm17
      exact absurd hm17 (Nat.not_lt_zero _)
    | succ fuel ih17 =>
      intro i R1 x17_2 hm17 hi hRR h1 h2 ex17_2
      subst ex17_2
      refine zg_iload_n hX 2 rfl dX8_read_17 rfl 18 rfl ?_
      refine zg_aload_n hX 0 rfl dX8_read_18 rfl 19 rfl ?_
      refine cg_3_2 hX mw_56 ((min 6 (n / 3) : Nat) : Int) rfl dX8_read_19 22 rfl ?_
      refine zg_icmp_ge hX (by omega) (by omega) dX8_read_22 71 (by decide) 25 rfl (fun h22 => ?_) (fun h22 => ?_)
      · refine zg_aload_n hX 0 rfl dX8_read_71 rfl 72 rfl ?_
        refine zg_aload_n hX 1 rfl dX8_read_72 rfl 73 rfl ?_
        refine cg_1_0 hX mw_30 dX8_read_73 76 rfl ?_
        refine zg_iconst hX dX8_read_76 77 rfl ?_
        refine zg_aload_n hX 0 rfl dX8_read_77 rfl 78 rfl ?_
        refine cg_3_2 hX mw_56 ((min 6 (n / 3) : Nat) : Int) rfl dX8_read_78 81 rfl ?_
        refine zg_imul hX dX8_read_81 82 rfl ?_
        refine ca_2 hX (3 * (min 6 (n / 3))) (g (3 * (min 6 (n / 3))) : Int) (by omega) (by omega) (by rw [hRR 0 (by decide) (by decide)]; exact hg _ (by omega)) dX8_read_82 83 rfl ?_
        refine zg_bipush hX dX8_read_83 85 rfl (by decide) ?_
        refine zg_isub hX dX8_read_85 86 rfl ?_
        refine cp_3_3 hX mw_63 dX8_read_86 89 rfl ?_
        exact zg_vret hX hR (Nat.le_refl _) (Nat.le_refl _) rfl dX8_read_89 (⟨R1, rfl, rfl, hRR, fun b hb => h1 b (by omega), fun b hb => h2 b (by omega)⟩)
      · have hso := soc_rng (g (3 * i))
        have hgi := hg6 (3 * i)
        have hgi1 := hg6 (3 * i + 1)
        refine zg_aload_n hX 0 rfl dX8_read_25 rfl 26 rfl ?_
        refine cg_3_0 hX mw_47 dX8_read_26 29 rfl ?_
        refine zg_iload_n hX 2 rfl dX8_read_29 rfl 30 rfl ?_
        refine zg_iconst hX dX8_read_30 31 rfl ?_
        refine zg_aload_n hX 1 rfl dX8_read_31 rfl 32 rfl ?_
        refine cg_1_0 hX mw_30 dX8_read_32 35 rfl ?_
        refine zg_iconst hX dX8_read_35 36 rfl ?_
        refine zg_iload_n hX 2 rfl dX8_read_36 rfl 37 rfl ?_
        refine zg_imul hX dX8_read_37 38 rfl ?_
        refine ca_2 hX (3 * i) (g (3 * i) : Int) (by omega) (by omega) (by rw [hRR 0 (by decide) (by decide)]; exact hg _ (by omega)) dX8_read_38 39 rfl ?_
        refine zg_callSi (As := [.int (zI (g (3 * i) : Int))]) (rest := [.int (zI 0), .int (zI (i : Int)), .ref (q 4)]) hX (c_X8_sortOf l D cI _ (g (3 * i)) (by omega)) mw_334 mw_314 mw_3 mw_315 sg_X8_sortOf.2 (by decide) (by decide) (Nat.le_refl _) (Nat.le_refl _) rfl (Nat.le_of_ble_eq_true rfl) dX8_read_39 42 rfl ?_
        refine zg_mmax hX (by omega) (by omega) mw_335 mw_336 mw_11 mw_337 (by omega) (Nat.le_refl _) (Nat.le_refl _) (Nat.le_of_ble_eq_true rfl) dX8_read_42 45 rfl ?_
        refine cs_4 hX i (by omega) (by omega) dX8_read_45 46 rfl ?_
        refine zg_aload_n hX 0 rfl dX8_read_46 rfl 47 rfl ?_
        refine cg_3_1 hX mw_50 dX8_read_47 50 rfl ?_
        refine zg_iload_n hX 2 rfl dX8_read_50 rfl 51 rfl ?_
        refine zg_aload_n hX 1 rfl dX8_read_51 rfl 52 rfl ?_
        refine cg_1_0 hX mw_30 dX8_read_52 55 rfl ?_
        refine zg_iconst hX dX8_read_55 56 rfl ?_
        refine zg_iload_n hX 2 rfl dX8_read_56 rfl 57 rfl ?_
        refine zg_imul hX dX8_read_57 58 rfl ?_
        refine zg_iconst hX dX8_read_58 59 rfl ?_
        refine zg_iadd hX dX8_read_59 60 rfl ?_
        refine ca_2 hX (3 * i + 1) (g (3 * i + 1) : Int) (by omega) (by omega) (by rw [pu_ne _ _ (by decide), hRR 0 (by decide) (by decide)]; exact hg _ (by omega)) dX8_read_60 61 rfl ?_
        refine zg_bipush hX dX8_read_61 63 rfl (by decide) ?_
        refine zg_isub hX dX8_read_63 64 rfl ?_
        refine cs_5 hX i (by omega) (by omega) dX8_read_64 65 rfl ?_
        refine zg_iinc hX [(2, .int (zI ((i : Int) + 1))), (0, .ref (q 3)), (1, .ref (q 1))] 2 rfl dX8_read_65 (by decide) rfl 68 rfl ?_
        refine zg_goto hX dX8_read_68 17 (by decide) ?_
        exact zg_lv _ [1, 2, 0] rfl (ih17 (i + 1) (pu (pu R1 1 (pu (R1 1) i (if 0 < (soc (g (3 * i))) then (soc (g (3 * i))) else 0))) 2 (pu (R1 2) i ((g (3 * i + 1) : Int) - 48))) _ (by omega) (by omega) (fun k ha hb => by rw [pu_ne _ _ hb, pu_ne _ _ ha]; exact hRR k ha hb) (fun j hj => by
            rw [pu_ne _ _ (by decide), pu_eq, pu_at]; split
            · next e => subst e; rfl
            · exact h1 j (by omega)) (fun j hj => by
            rw [pu_eq, pu_at]; split
            · next e => subst e; rfl
            · exact h2 j (by omega)) (by omega))
  exact zg_lv _ [1, 2, 0] rfl (L17 _ 0 r _ (Nat.lt_succ_self _) (by omega) (fun _ _ _ => rfl) (fun j hj => absurd hj (Nat.not_lt_zero j)) (fun j hj => absurd hj (Nat.not_lt_zero j)) (rfl))
-- Evening.beginAnew
set_option maxRecDepth 20000 in
theorem c_X3_beginAnew (l : Launch) (D : va_G) (cI : ClassId) (q : Nat → Nat) (f : Nat → Int) (r : Nat → Nat → Int)   : Cn l D cI yX3_beginAnew cX3_beginAnew 1 none 0 0 0 [.ref (q 6)] (cW cI q f r) (pW none (cW cI q (pu (pu (pu (pu (pu (pu (pu f 3 0) 4 0) 5 0) 6 0) 7 0) 8 0) 9 0) r)) := by
  refine Cn.of [(0, .ref (q 6))] (by decide +kernel) (Nat.le_of_ble_eq_true rfl) rfl (fun X hX hR => ?_)
  refine zg_aload_n hX 0 rfl dX3_beginAnew_0 rfl 1 rfl ?_
  refine zg_iconst hX dX3_beginAnew_1 2 rfl ?_
  refine cp_6_5 hX mw_89 dX3_beginAnew_2 5 rfl ?_
  refine zg_aload_n hX 0 rfl dX3_beginAnew_5 rfl 6 rfl ?_
  refine zg_iconst hX dX3_beginAnew_6 7 rfl ?_
  refine cp_6_6 hX mw_91 dX3_beginAnew_7 10 rfl ?_
  refine zg_aload_n hX 0 rfl dX3_beginAnew_10 rfl 11 rfl ?_
  refine zg_iconst hX dX3_beginAnew_11 12 rfl ?_
  refine cp_6_7 hX mw_99 dX3_beginAnew_12 15 rfl ?_
  refine zg_aload_n hX 0 rfl dX3_beginAnew_15 rfl 16 rfl ?_
  refine zg_iconst hX dX3_beginAnew_16 17 rfl ?_
  refine cp_6_8 hX mw_102 dX3_beginAnew_17 20 rfl ?_
  refine zg_aload_n hX 0 rfl dX3_beginAnew_20 rfl 21 rfl ?_
  refine zg_iconst hX dX3_beginAnew_21 22 rfl ?_
  refine cp_6_9 hX mw_103 dX3_beginAnew_22 25 rfl ?_
  refine zg_aload_n hX 0 rfl dX3_beginAnew_25 rfl 26 rfl ?_
  refine zg_iconst hX dX3_beginAnew_26 27 rfl ?_
  refine cp_6_10 hX mw_105 dX3_beginAnew_27 30 rfl ?_
  refine zg_aload_n hX 0 rfl dX3_beginAnew_30 rfl 31 rfl ?_
  refine zg_iconst hX dX3_beginAnew_31 32 rfl ?_
  refine cp_6_11 hX mw_107 dX3_beginAnew_32 35 rfl ?_
  exact zg_vret hX hR (Nat.le_refl _) (Nat.le_refl _) rfl dX3_beginAnew_35 (⟨rfl, rfl⟩)
-- Evening.welcome
set_option maxRecDepth 20000 in
theorem c_X3_welcome (l : Launch) (D : va_G) (cI : ClassId) (q : Nat → Nat) (f : Nat → Int) (r : Nat → Nat → Int) (E : Ev) (k x : Nat) (hE : gEvC (f 3) (f 4) (f 5) (f 6) (f 7) (f 8) (f 9) (r 3) (r 4) (r 5) (r 6) (r 7) E) (h16 : ∀ p, et E p < 16) (hn4 : en E < 4) (hk : k ≤ 4) (hx : x ≤ 9) : Cn l D cI yX3_welcome cX3_welcome 4 (some .int) 1 0 0 [.ref (q 6), .int (zI (k : Int)), .int (zI (x : Int))] (cW cI q f r) (pW (some (.int (zI (en E : Int)))) (cW cI q (pu (pu (pu (pu f 5 (n6 (pu (et E) (en E) x))) 6 ((mk (isK (en E + 1, pu (ek E) (en E) k, pu (et E) (en E) x, pu (eo E) (en E) 0, pu (ec E) (en E) 0, E.2.2.2.2.2) 2) 4 : Nat) : Int)) 7 ((mk (isK (en E + 1, pu (ek E) (en E) k, pu (et E) (en E) x, pu (eo E) (en E) 0, pu (ec E) (en E) 0, E.2.2.2.2.2) 3) 4 : Nat) : Int)) 4 ((en E : Int) + 1)) (pu (pu (pu r 3 (pu (r 3) (en E) (k : Int))) 4 (pu (r 4) (en E) 0)) 5 (pu (r 5) (en E) 0)))) := by
  refine Cn.of [(0, .ref (q 6)), (1, .int (zI (k : Int))), (2, .int (zI (x : Int)))] (by decide +kernel) (Nat.le_of_ble_eq_true rfl) rfl (fun X hX hR => ?_)
  refine zg_aload_n hX 0 rfl dX3_welcome_0 rfl 1 rfl ?_
  refine cg_6_6 hX mw_91 (en E : Int) hE.2.1 dX3_welcome_1 4 rfl ?_
  refine zg_istore_n hX [(3, .int (zI (en E : Int))), (0, .ref (q 6)), (1, .int (zI (k : Int))), (2, .int (zI (x : Int)))] dX3_welcome_4 rfl (by decide) rfl 5 rfl ?_
  refine zg_iload_n hX 0 rfl dX3_welcome_5 rfl 6 rfl ?_
  refine zg_iconst hX dX3_welcome_6 7 rfl ?_
  refine zg_icmp_lt hX (by omega) (by omega) dX3_welcome_7 12 (by decide) 10 rfl (fun h7 => ?_) (fun h7 => ?_)
  · refine zg_aload_n hX 1 rfl dX3_welcome_12 rfl 13 rfl ?_
    refine cg_6_0 hX mw_80 dX3_welcome_13 16 rfl ?_
    refine zg_iload_n hX 0 rfl dX3_welcome_16 rfl 17 rfl ?_
    refine zg_iload_n hX 2 rfl dX3_welcome_17 rfl 18 rfl ?_
    refine cs_7 hX (en E) (by omega) (by omega) dX3_welcome_18 19 rfl ?_
    refine zg_aload_n hX 1 rfl dX3_welcome_19 rfl 20 rfl ?_
    refine cg_6_1 hX mw_83 dX3_welcome_20 23 rfl ?_
    refine zg_iload_n hX 0 rfl dX3_welcome_23 rfl 24 rfl ?_
    refine zg_iconst hX dX3_welcome_24 25 rfl ?_
    refine cs_8 hX (en E) (by omega) (by omega) dX3_welcome_25 26 rfl ?_
    refine zg_aload_n hX 1 rfl dX3_welcome_26 rfl 27 rfl ?_
    refine cg_6_2 hX mw_85 dX3_welcome_27 30 rfl ?_
    refine zg_iload_n hX 0 rfl dX3_welcome_30 rfl 31 rfl ?_
    refine zg_iconst hX dX3_welcome_31 32 rfl ?_
    refine cs_9 hX (en E) (by omega) (by omega) dX3_welcome_32 33 rfl ?_
    refine zg_aload_n hX 1 rfl dX3_welcome_33 rfl 34 rfl ?_
    refine zg_aload_n hX 1 rfl dX3_welcome_34 rfl 35 rfl ?_
    refine cg_6_7 hX mw_99 (n6 (et E)) hE.2.2.1 dX3_welcome_35 38 rfl ?_
    refine zg_iload_n hX 0 rfl dX3_welcome_38 rfl 39 rfl ?_
    refine zg_iload_n hX 3 rfl dX3_welcome_39 rfl 40 rfl ?_
    refine zg_callSi (As := [.int (zI (n6 (et E))), .int (zI (en E : Int)), .int (zI (x : Int))]) (rest := [.ref (q 6)]) hX (c_X5_with l D cI _ (et E) (en E) x h16 (by omega) (by omega)) mw_412 mw_376 mw_12 mw_377 sg_X5_with.2 (by decide) (by decide) (Nat.le_refl _) (Nat.le_refl _) rfl (Nat.le_of_ble_eq_true rfl) dX3_welcome_40 43 rfl ?_
    refine cp_6_7 hX mw_99 dX3_welcome_43 46 rfl ?_
    refine zg_aload_n hX 1 rfl dX3_welcome_46 rfl 47 rfl ?_
    refine zg_dup hX rfl dX3_welcome_47 48 rfl ?_
    refine cg_6_8 hX mw_102 ((mk (isK E 2) 4 : Nat) : Int) hE.2.2.2.1 dX3_welcome_48 51 rfl ?_
    refine zg_iload_n hX 2 rfl dX3_welcome_51 rfl 52 rfl ?_
    refine zg_iconst hX dX3_welcome_52 53 rfl ?_
    have J63 : ∀ xj : Int, xj = (if k = 2 then ((2 ^ (en E) : Nat) : Int) else 0) → G X 4 0 0 (cW cI q (pu f 5 (n6 (pu (et E) (en E) x))) (pu (pu (pu r 3 (pu (r 3) (en E) (k : Int))) 4 (pu (r 4) (en E) 0)) 5 (pu (r 5) (en E) 0))) [(3, .int (zI (en E : Int))), (0, .ref (q 6)), (1, .int (zI (k : Int))), (2, .int (zI (x : Int)))] 63 [.int (zI xj), .int (zI ((mk (isK E 2) 4 : Nat) : Int)), .ref (q 6)] := by
      intro xj hx63
      subst hx63
      refine zg_ior hX ((mk (isK (en E + 1, pu (ek E) (en E) k, pu (et E) (en E) x, pu (eo E) (en E) 0, pu (ec E) (en E) 0, E.2.2.2.2.2) 2) 4 : Nat) : Int) (isK_new hn4) dX3_welcome_63 64 rfl ?_
      refine cp_6_8 hX mw_102 dX3_welcome_64 67 rfl ?_
      refine zg_aload_n hX 1 rfl dX3_welcome_67 rfl 68 rfl ?_
      refine zg_dup hX rfl dX3_welcome_68 69 rfl ?_
      refine cg_6_9 hX mw_103 ((mk (isK E 3) 4 : Nat) : Int) hE.2.2.2.2.1 dX3_welcome_69 72 rfl ?_
      refine zg_iload_n hX 2 rfl dX3_welcome_72 rfl 73 rfl ?_
      refine zg_iconst hX dX3_welcome_73 74 rfl ?_
      have J84 : ∀ xj : Int, xj = (if k = 3 then ((2 ^ (en E) : Nat) : Int) else 0) → G X 4 0 0 (cW cI q (pu (pu f 5 (n6 (pu (et E) (en E) x))) 6 ((mk (isK (en E + 1, pu (ek E) (en E) k, pu (et E) (en E) x, pu (eo E) (en E) 0, pu (ec E) (en E) 0, E.2.2.2.2.2) 2) 4 : Nat) : Int)) (pu (pu (pu r 3 (pu (r 3) (en E) (k : Int))) 4 (pu (r 4) (en E) 0)) 5 (pu (r 5) (en E) 0))) [(3, .int (zI (en E : Int))), (0, .ref (q 6)), (1, .int (zI (k : Int))), (2, .int (zI (x : Int)))] 84 [.int (zI xj), .int (zI ((mk (isK E 3) 4 : Nat) : Int)), .ref (q 6)] := by
        intro xj hx84
        subst hx84
        refine zg_ior hX ((mk (isK (en E + 1, pu (ek E) (en E) k, pu (et E) (en E) x, pu (eo E) (en E) 0, pu (ec E) (en E) 0, E.2.2.2.2.2) 3) 4 : Nat) : Int) (isK_new hn4) dX3_welcome_84 85 rfl ?_
        refine cp_6_9 hX mw_103 dX3_welcome_85 88 rfl ?_
        refine zg_aload_n hX 1 rfl dX3_welcome_88 rfl 89 rfl ?_
        refine zg_dup hX rfl dX3_welcome_89 90 rfl ?_
        refine cg_6_6 hX mw_91 (en E : Int) hE.2.1 dX3_welcome_90 93 rfl ?_
        refine zg_iconst hX dX3_welcome_93 94 rfl ?_
        refine zg_iadd hX dX3_welcome_94 95 rfl ?_
        refine cp_6_6 hX mw_91 dX3_welcome_95 98 rfl ?_
        refine zg_iload_n hX 0 rfl dX3_welcome_98 rfl 99 rfl ?_
        exact zg_iret hX hR (Nat.le_refl _) (Nat.le_refl _) rfl dX3_welcome_99 (⟨rfl, rfl⟩)
      refine zg_icmp_ne hX (by omega) (by omega) dX3_welcome_74 83 (by decide) 77 rfl (fun h74 => ?_) (fun h74 => ?_)
      · refine zg_iconst hX dX3_welcome_83 84 rfl ?_
        exact J84 _ (by first | rw [if_pos (by omega)] | rw [if_neg (by omega)])
      · refine zg_iconst hX dX3_welcome_77 78 rfl ?_
        refine zg_iload_n hX 0 rfl dX3_welcome_78 rfl 79 rfl ?_
        refine zg_ishl hX ((2 ^ (en E) : Nat) : Int) (zb_shl1 (by omega)) dX3_welcome_79 80 rfl ?_
        refine zg_goto hX dX3_welcome_80 84 (by decide) ?_
        exact J84 _ (by first | rw [if_pos (by omega)] | rw [if_neg (by omega)])
    refine zg_icmp_ne hX (by omega) (by omega) dX3_welcome_53 62 (by decide) 56 rfl (fun h53 => ?_) (fun h53 => ?_)
    · refine zg_iconst hX dX3_welcome_62 63 rfl ?_
      exact J63 _ (by first | rw [if_pos (by omega)] | rw [if_neg (by omega)])
    · refine zg_iconst hX dX3_welcome_56 57 rfl ?_
      refine zg_iload_n hX 0 rfl dX3_welcome_57 rfl 58 rfl ?_
      refine zg_ishl hX ((2 ^ (en E) : Nat) : Int) (zb_shl1 (by omega)) dX3_welcome_58 59 rfl ?_
      refine zg_goto hX dX3_welcome_59 63 (by decide) ?_
      exact J63 _ (by first | rw [if_pos (by omega)] | rw [if_neg (by omega)])
  · omega
-- Evening.hear
set_option maxRecDepth 20000 in
theorem c_X3_hear (l : Launch) (D : va_G) (cI : ClassId) (q : Nat → Nat) (f : Nat → Int) (r : Nat → Nat → Int) (E : Ev) (b x : Nat) (hE : gEvC (f 3) (f 4) (f 5) (f 6) (f 7) (f 8) (f 9) (r 3) (r 4) (r 5) (r 6) (r 7) E) (hT : eT E < 6) : Cn l D cI yX3_hear cX3_hear 3 none 0 0 0 [.ref (q 6), .int (zI (b : Int)), .int (zI (x : Int))] (cW cI q f r) (pW none (cW cI q (pu f 3 ((eT E : Int) + 1)) (pu (pu r 6 (pu (r 6) (eT E) (b : Int))) 7 (pu (r 7) (eT E) (x : Int))))) := by
  refine Cn.of [(0, .ref (q 6)), (1, .int (zI (b : Int))), (2, .int (zI (x : Int)))] (by decide +kernel) (Nat.le_of_ble_eq_true rfl) rfl (fun X hX hR => ?_)
  refine zg_aload_n hX 0 rfl dX3_hear_0 rfl 1 rfl ?_
  refine cg_6_5 hX mw_89 (eT E : Int) hE.1 dX3_hear_1 4 rfl ?_
  refine zg_bipush hX dX3_hear_4 6 rfl (by decide) ?_
  refine zg_icmp_ge hX (by omega) (by omega) dX3_hear_6 39 (by decide) 9 rfl (fun h6 => ?_) (fun h6 => ?_)
  · omega
  · refine zg_aload_n hX 0 rfl dX3_hear_9 rfl 10 rfl ?_
    refine cg_6_3 hX mw_87 dX3_hear_10 13 rfl ?_
    refine zg_aload_n hX 0 rfl dX3_hear_13 rfl 14 rfl ?_
    refine cg_6_5 hX mw_89 (eT E : Int) hE.1 dX3_hear_14 17 rfl ?_
    refine zg_iload_n hX 1 rfl dX3_hear_17 rfl 18 rfl ?_
    refine cs_10 hX (eT E) (by omega) (by omega) dX3_hear_18 19 rfl ?_
    refine zg_aload_n hX 0 rfl dX3_hear_19 rfl 20 rfl ?_
    refine cg_6_4 hX mw_88 dX3_hear_20 23 rfl ?_
    refine zg_aload_n hX 0 rfl dX3_hear_23 rfl 24 rfl ?_
    refine cg_6_5 hX mw_89 (eT E : Int) hE.1 dX3_hear_24 27 rfl ?_
    refine zg_iload_n hX 2 rfl dX3_hear_27 rfl 28 rfl ?_
    refine cs_11 hX (eT E) (by omega) (by omega) dX3_hear_28 29 rfl ?_
    refine zg_aload_n hX 0 rfl dX3_hear_29 rfl 30 rfl ?_
    refine zg_dup hX rfl dX3_hear_30 31 rfl ?_
    refine cg_6_5 hX mw_89 (eT E : Int) hE.1 dX3_hear_31 34 rfl ?_
    refine zg_iconst hX dX3_hear_34 35 rfl ?_
    refine zg_iadd hX dX3_hear_35 36 rfl ?_
    refine cp_6_5 hX mw_89 dX3_hear_36 39 rfl ?_
    exact zg_vret hX hR (Nat.le_refl _) (Nat.le_refl _) rfl dX3_hear_39 (⟨rfl, rfl⟩)
-- Evening.lastToldOf
set_option maxRecDepth 20000 in
theorem c_X3_lastToldOf (l : Launch) (D : va_G) (cI : ClassId) (q : Nat → Nat) (f : Nat → Int) (r : Nat → Nat → Int) (E : Ev) (b : Nat) (hE : gEvC (f 3) (f 4) (f 5) (f 6) (f 7) (f 8) (f 9) (r 3) (r 4) (r 5) (r 6) (r 7) E) (hT : eT E ≤ 6) (hb : b ≤ 6) (hb6 : ∀ k, k < eT E → eb E k < 6) : Cn l D cI yX3_lastToldOf cX3_lastToldOf 3 (some .int) 0 0 0 [.ref (q 6), .int (zI (b : Int))] (cW cI q f r) (pI (ltl (eb E) (el E) b (eT E)) (cW cI q f r)) := by
  refine Cn.of [(0, .ref (q 6)), (1, .int (zI (b : Int)))] (by decide +kernel) (Nat.le_of_ble_eq_true rfl) rfl (fun X hX hR => ?_)
  refine zg_aload_n hX 0 rfl dX3_lastToldOf_0 rfl 1 rfl ?_
  refine cg_6_5 hX mw_89 (eT E : Int) hE.1 dX3_lastToldOf_1 4 rfl ?_
  refine zg_iconst hX dX3_lastToldOf_4 5 rfl ?_
  refine zg_isub hX dX3_lastToldOf_5 6 rfl ?_
  refine zg_istore_n hX [(2, .int (zI ((eT E : Int) - 1))), (0, .ref (q 6)), (1, .int (zI (b : Int)))] dX3_lastToldOf_6 rfl (by decide) rfl 7 rfl ?_
  have L7 : ∀ (fuel : Nat) (i : Nat) (x7_2 : Int), (i < fuel) → (i ≤ eT E) → (ltl (eb E) (el E) b (eT E) = ltl (eb E) (el E) b i) → x7_2 = ((i : Int) - 1) → G X 3 0 0 (cW cI q f r) [(0, .ref (q 6)), (1, .int (zI (b : Int))), (2, .int (zI x7_2))] 7 [] := by
    intro fuel
    induction fuel with
    | zero =>
      intro i x7_2 hm7
      exact absurd hm7 (Nat.not_lt_zero _)
    | succ fuel ih7 =>
      intro i x7_2 hm7 hi hf ex7_2
      subst ex7_2
      refine zg_iload_n hX 2 rfl dX3_lastToldOf_7 rfl 8 rfl ?_
      refine zg_if_lt hX (by omega) dX3_lastToldOf_8 34 (by decide) 11 rfl (fun h8 => ?_) (fun h8 => ?_)
      · refine zg_iconst hX dX3_lastToldOf_34 35 rfl ?_
        exact zg_iret hX hR (Nat.le_refl _) (Nat.le_refl _) rfl dX3_lastToldOf_35 (pI_of (by rw [hf, show i = 0 by omega]; rfl))
      · refine zg_aload_n hX 0 rfl dX3_lastToldOf_11 rfl 12 rfl ?_
        refine cg_6_3 hX mw_87 dX3_lastToldOf_12 15 rfl ?_
        refine zg_iload_n hX 2 rfl dX3_lastToldOf_15 rfl 16 rfl ?_
        refine ca_10 hX (i - 1) (eb E (i - 1) : Int) (by omega) (by omega) (hE.2.2.2.2.2.2.2.2.2.2.1 _ (by omega)) dX3_lastToldOf_16 17 rfl ?_
        have hbi := hb6 (i - 1) (by omega)
        refine zg_iload_n hX 1 rfl dX3_lastToldOf_17 rfl 18 rfl ?_
        refine zg_icmp_ne hX (by omega) (by omega) dX3_lastToldOf_18 28 (by decide) 21 rfl (fun h18 => ?_) (fun h18 => ?_)
        · refine zg_iinc hX [(2, .int (zI (((i : Int) - 1) + (-1)))), (0, .ref (q 6)), (1, .int (zI (b : Int)))] 2 rfl dX3_lastToldOf_28 (by decide) rfl 31 rfl ?_
          refine zg_goto hX dX3_lastToldOf_31 7 (by decide) ?_
          exact zg_lv _ [1, 2, 0] rfl (ih7 (i - 1) _ (by omega) (by omega) (by rw [hf, show i = (i - 1) + 1 by omega]; simp only [ltl]; rw [if_neg (by omega)]; rfl) (by omega))
        · refine zg_aload_n hX 0 rfl dX3_lastToldOf_21 rfl 22 rfl ?_
          refine cg_6_4 hX mw_88 dX3_lastToldOf_22 25 rfl ?_
          refine zg_iload_n hX 2 rfl dX3_lastToldOf_25 rfl 26 rfl ?_
          refine ca_11 hX (i - 1) (el E (i - 1) : Int) (by omega) (by omega) (hE.2.2.2.2.2.2.2.2.2.2.2 _ (by omega)) dX3_lastToldOf_26 27 rfl ?_
          exact zg_iret hX hR (Nat.le_refl _) (Nat.le_refl _) rfl dX3_lastToldOf_27 (pI_of (by rw [hf, show i = (i - 1) + 1 by omega]; simp only [ltl]; rw [if_pos (by omega)]; rfl))
  exact zg_lv _ [1, 2, 0] rfl (L7 _ (eT E) _ (Nat.lt_succ_self _) (by omega) (rfl) (by omega))
-- Evening.isAsTold
set_option maxRecDepth 20000 in
theorem c_X3_isAsTold (l : Launch) (D : va_G) (cI : ClassId) (q : Nat → Nat) (f : Nat → Int) (r : Nat → Nat → Int) (E : Ev) (s : Nat → Nat) (hE : gEvC (f 3) (f 4) (f 5) (f 6) (f 7) (f 8) (f 9) (r 3) (r 4) (r 5) (r 6) (r 7) E) (hT : eT E ≤ 6) (hs : ∀ p, s p < 16) (hb6 : ∀ k, k < eT E → eb E k < 6) (hl4 : ∀ k, el E k ≤ 4) : Cn l D cI yX3_isAsTold cX3_isAsTold 3 (some .boolean) 1 0 0 [.ref (q 6), .int (zI (n6 s))] (cW cI q f r) (pI (b2 (ast s (eb E) (el E) (eT E))) (cW cI q f r)) := by
  refine Cn.of [(0, .ref (q 6)), (1, .int (zI (n6 s)))] (by decide +kernel) (Nat.le_of_ble_eq_true rfl) rfl (fun X hX hR => ?_)
  refine zg_iconst hX dX3_isAsTold_0 1 rfl ?_
  refine zg_istore_n hX [(2, .int (zI 0)), (0, .ref (q 6)), (1, .int (zI (n6 s)))] dX3_isAsTold_1 rfl (by decide) rfl 2 rfl ?_
  have L2 : ∀ (fuel : Nat) (i : Nat) (x2_2 : Int), (eT E - i < fuel) → (i ≤ eT E) → (ast s (eb E) (el E) i = true) → x2_2 = (i : Int) → G X 3 0 0 (cW cI q f r) [(0, .ref (q 6)), (1, .int (zI (n6 s))), (2, .int (zI x2_2))] 2 [] := by
    intro fuel
    induction fuel with
    | zero =>
      intro i x2_2 hm2
      exact absurd hm2 (Nat.not_lt_zero _)
    | succ fuel ih2 =>
      intro i x2_2 hm2 hi hf ex2_2
      subst ex2_2
      refine zg_iload_n hX 2 rfl dX3_isAsTold_2 rfl 3 rfl ?_
      refine zg_aload_n hX 0 rfl dX3_isAsTold_3 rfl 4 rfl ?_
      refine cg_6_5 hX mw_89 (eT E : Int) hE.1 dX3_isAsTold_4 7 rfl ?_
      refine zg_icmp_ge hX (by omega) (by omega) dX3_isAsTold_7 37 (by decide) 10 rfl (fun h7 => ?_) (fun h7 => ?_)
      · refine zg_iconst hX dX3_isAsTold_37 38 rfl ?_
        exact zg_zret hX hR (Nat.le_refl _) (Nat.le_refl _) (by decide) rfl dX3_isAsTold_38 (pB_t (by rw [show eT E = i by omega]; exact hf))
      · have hbi := hb6 i (by omega)
        have hli := hl4 i
        have hsi := hs (eb E i)
        refine zg_iload_n hX 1 rfl dX3_isAsTold_10 rfl 11 rfl ?_
        refine zg_aload_n hX 0 rfl dX3_isAsTold_11 rfl 12 rfl ?_
        refine cg_6_3 hX mw_87 dX3_isAsTold_12 15 rfl ?_
        refine zg_iload_n hX 2 rfl dX3_isAsTold_15 rfl 16 rfl ?_
        refine ca_10 hX i (eb E i : Int) (by omega) (by omega) (hE.2.2.2.2.2.2.2.2.2.2.1 _ (by omega)) dX3_isAsTold_16 17 rfl ?_
        refine zg_callSi (As := [.int (zI (n6 s)), .int (zI (eb E i : Int))]) (rest := []) hX (c_X5_get l D cI _ s (eb E i) hs (by omega)) mw_555 mw_363 mw_12 mw_364 sg_X5_get.2 (by decide) (by decide) (Nat.le_refl _) (Nat.le_refl _) rfl (Nat.le_of_ble_eq_true rfl) dX3_isAsTold_17 20 rfl ?_
        refine zg_aload_n hX 0 rfl dX3_isAsTold_20 rfl 21 rfl ?_
        refine cg_6_4 hX mw_88 dX3_isAsTold_21 24 rfl ?_
        refine zg_iload_n hX 2 rfl dX3_isAsTold_24 rfl 25 rfl ?_
        refine ca_11 hX i (el E i : Int) (by omega) (by omega) (hE.2.2.2.2.2.2.2.2.2.2.2 _ (by omega)) dX3_isAsTold_25 26 rfl ?_
        refine zg_icmp_eq hX (by omega) (by omega) dX3_isAsTold_26 31 (by decide) 29 rfl (fun h26 => ?_) (fun h26 => ?_)
        · refine zg_iinc hX [(2, .int (zI ((i : Int) + 1))), (0, .ref (q 6)), (1, .int (zI (n6 s)))] 2 rfl dX3_isAsTold_31 (by decide) rfl 34 rfl ?_
          refine zg_goto hX dX3_isAsTold_34 2 (by decide) ?_
          exact zg_lv _ [1, 2, 0] rfl (ih2 (i + 1) _ (by omega) (by omega) (by simp only [ast]; rw [hf, decide_eq_true (by omega)]; rfl) (by omega))
        · refine zg_iconst hX dX3_isAsTold_29 30 rfl ?_
          exact zg_zret hX hR (Nat.le_refl _) (Nat.le_refl _) (by decide) rfl dX3_isAsTold_30 (pB_f (ast_no (i := i) (by omega) _ (by omega)))
  exact zg_lv _ [1, 2, 0] rfl (L2 _ 0 _ (Nat.lt_succ_self _) (by omega) (rfl) (rfl))
-- Evening.coffeesGiven
set_option maxRecDepth 20000 in
theorem c_X3_coffeesGiven (l : Launch) (D : va_G) (cI : ClassId) (q : Nat → Nat) (f : Nat → Int) (r : Nat → Nat → Int) (E : Ev) (hE : gEvC (f 3) (f 4) (f 5) (f 6) (f 7) (f 8) (f 9) (r 3) (r 4) (r 5) (r 6) (r 7) E) (hn4 : en E ≤ 4) : Cn l D cI yX3_coffeesGiven cX3_coffeesGiven 3 (some .int) 0 0 0 [.ref (q 6)] (cW cI q f r) (pI (su (ec E) (en E) : Int) (cW cI q f r)) := by
  refine Cn.of [(0, .ref (q 6))] (by decide +kernel) (Nat.le_of_ble_eq_true rfl) rfl (fun X hX hR => ?_)
  refine zg_iconst hX dX3_coffeesGiven_0 1 rfl ?_
  refine zg_istore_n hX [(1, .int (zI 0)), (0, .ref (q 6))] dX3_coffeesGiven_1 rfl (by decide) rfl 2 rfl ?_
  refine zg_iconst hX dX3_coffeesGiven_2 3 rfl ?_
  refine zg_istore_n hX [(2, .int (zI 0)), (1, .int (zI 0)), (0, .ref (q 6))] dX3_coffeesGiven_3 rfl (by decide) rfl 4 rfl ?_
  have L4 : ∀ (fuel : Nat) (i : Nat) (x4_1 : Int) (x4_2 : Int), (en E - i < fuel) → (i ≤ en E) → x4_1 = (su (ec E) i : Int) → x4_2 = (i : Int) → G X 3 0 0 (cW cI q f r) [(0, .ref (q 6)), (1, .int (zI x4_1)), (2, .int (zI x4_2))] 4 [] := by
    intro fuel
    induction fuel with
    | zero =>
      intro i x4_1 x4_2 hm4
      exact absurd hm4 (Nat.not_lt_zero _)
    | succ fuel ih4 =>
      intro i x4_1 x4_2 hm4 hi ex4_1 ex4_2
      subst ex4_1
      subst ex4_2
      refine zg_iload_n hX 2 rfl dX3_coffeesGiven_4 rfl 5 rfl ?_
      refine zg_aload_n hX 0 rfl dX3_coffeesGiven_5 rfl 6 rfl ?_
      refine cg_6_6 hX mw_91 (en E : Int) hE.2.1 dX3_coffeesGiven_6 9 rfl ?_
      refine zg_icmp_ge hX (by omega) (by omega) dX3_coffeesGiven_9 27 (by decide) 12 rfl (fun h9 => ?_) (fun h9 => ?_)
      · refine zg_iload_n hX 1 rfl dX3_coffeesGiven_27 rfl 28 rfl ?_
        exact zg_iret hX hR (Nat.le_refl _) (Nat.le_refl _) rfl dX3_coffeesGiven_28 (pI_of (by rw [show i = en E by omega]))
      · refine zg_iload_n hX 1 rfl dX3_coffeesGiven_12 rfl 13 rfl ?_
        refine zg_aload_n hX 0 rfl dX3_coffeesGiven_13 rfl 14 rfl ?_
        refine cg_6_1 hX mw_83 dX3_coffeesGiven_14 17 rfl ?_
        refine zg_iload_n hX 2 rfl dX3_coffeesGiven_17 rfl 18 rfl ?_
        refine ca_8 hX i (ec E i : Int) (by omega) (by omega) (hE.2.2.2.2.2.2.2.2.1 _ (by omega)) dX3_coffeesGiven_18 19 rfl ?_
        refine zg_iadd hX dX3_coffeesGiven_19 20 rfl ?_
        refine zg_istore_n hX [(1, .int (zI ((su (ec E) i : Int) + (ec E i : Int)))), (0, .ref (q 6)), (2, .int (zI (i : Int)))] dX3_coffeesGiven_20 rfl (by decide) rfl 21 rfl ?_
        refine zg_iinc hX [(2, .int (zI ((i : Int) + 1))), (1, .int (zI ((su (ec E) i : Int) + (ec E i : Int)))), (0, .ref (q 6))] 2 rfl dX3_coffeesGiven_21 (by decide) rfl 24 rfl ?_
        refine zg_goto hX dX3_coffeesGiven_24 4 (by decide) ?_
        exact zg_lv _ [2, 1, 0] rfl (ih4 (i + 1) _ _ (by omega) (by omega) (by simp only [su]; omega) (by omega))
  exact zg_lv _ [2, 1, 0] rfl (L4 _ 0 _ _ (Nat.lt_succ_self _) (by omega) (rfl) (rfl))
-- Evening.takeOver
set_option maxRecDepth 20000 in
theorem c_X3_takeOver_6 (l : Launch) (D : va_G) (cI : ClassId) (q : Nat → Nat) (f : Nat → Int) (r : Nat → Nat → Int)   : Cn l D cI yX3_takeOver cX3_takeOver 2 none 1 0 0 [.ref (q 6), .ref (q 12)] (cW cI q f r) (pW none (cW cI q (pu (pu (pu (pu (pu (pu (pu f 3 (f 10)) 4 (f 11)) 5 (f 12)) 6 (f 13)) 7 (f 14)) 8 (f 15)) 9 (f 16)) (pu (pu (pu (pu (pu r 3 (fun j => if j < 4 then (r 8) j else (r 3) j)) 4 (fun j => if j < 4 then (r 9) j else (r 4) j)) 5 (fun j => if j < 4 then (r 10) j else (r 5) j)) 6 (fun j => if j < 6 then (r 11) j else (r 6) j)) 7 (fun j => if j < 6 then (r 12) j else (r 7) j)))) := by
  refine Cn.of [(0, .ref (q 6)), (1, .ref (q 12))] (by decide +kernel) (Nat.le_of_ble_eq_true rfl) rfl (fun X hX hR => ?_)
  refine zg_aload_n hX 1 rfl dX3_takeOver_0 rfl 1 rfl ?_
  refine cg_12_0 hX mw_80 dX3_takeOver_1 4 rfl ?_
  refine zg_iconst hX dX3_takeOver_4 5 rfl ?_
  refine zg_aload_n hX 0 rfl dX3_takeOver_5 rfl 6 rfl ?_
  refine cg_6_0 hX mw_80 dX3_takeOver_6 9 rfl ?_
  refine zg_iconst hX dX3_takeOver_9 10 rfl ?_
  refine zg_iconst hX dX3_takeOver_10 11 rfl ?_
  refine zg_copy (k0 := 13) (k1 := 7) hX (cW cI q f (pu r 3 (fun j => if j < 4 then (r 8) j else (r 3) j))) 4 mw_602 mw_490 mw_489 mw_13 rfl rfl (by decide) (by decide) (by decide) (by omega) (Nat.le_of_ble_eq_true rfl) rfl dX3_takeOver_11 14 rfl ?_
  refine zg_aload_n hX 1 rfl dX3_takeOver_14 rfl 15 rfl ?_
  refine cg_12_1 hX mw_83 dX3_takeOver_15 18 rfl ?_
  refine zg_iconst hX dX3_takeOver_18 19 rfl ?_
  refine zg_aload_n hX 0 rfl dX3_takeOver_19 rfl 20 rfl ?_
  refine cg_6_1 hX mw_83 dX3_takeOver_20 23 rfl ?_
  refine zg_iconst hX dX3_takeOver_23 24 rfl ?_
  refine zg_iconst hX dX3_takeOver_24 25 rfl ?_
  refine zg_copy (k0 := 14) (k1 := 8) hX (cW cI q f (pu (pu r 3 (fun j => if j < 4 then (r 8) j else (r 3) j)) 4 (fun j => if j < 4 then (r 9) j else (r 4) j))) 4 mw_602 mw_490 mw_489 mw_13 rfl rfl (by decide) (by decide) (by decide) (by omega) (Nat.le_of_ble_eq_true rfl) rfl dX3_takeOver_25 28 rfl ?_
  refine zg_aload_n hX 1 rfl dX3_takeOver_28 rfl 29 rfl ?_
  refine cg_12_2 hX mw_85 dX3_takeOver_29 32 rfl ?_
  refine zg_iconst hX dX3_takeOver_32 33 rfl ?_
  refine zg_aload_n hX 0 rfl dX3_takeOver_33 rfl 34 rfl ?_
  refine cg_6_2 hX mw_85 dX3_takeOver_34 37 rfl ?_
  refine zg_iconst hX dX3_takeOver_37 38 rfl ?_
  refine zg_iconst hX dX3_takeOver_38 39 rfl ?_
  refine zg_copy (k0 := 15) (k1 := 9) hX (cW cI q f (pu (pu (pu r 3 (fun j => if j < 4 then (r 8) j else (r 3) j)) 4 (fun j => if j < 4 then (r 9) j else (r 4) j)) 5 (fun j => if j < 4 then (r 10) j else (r 5) j))) 4 mw_602 mw_490 mw_489 mw_13 rfl rfl (by decide) (by decide) (by decide) (by omega) (Nat.le_of_ble_eq_true rfl) rfl dX3_takeOver_39 42 rfl ?_
  refine zg_aload_n hX 1 rfl dX3_takeOver_42 rfl 43 rfl ?_
  refine cg_12_3 hX mw_87 dX3_takeOver_43 46 rfl ?_
  refine zg_iconst hX dX3_takeOver_46 47 rfl ?_
  refine zg_aload_n hX 0 rfl dX3_takeOver_47 rfl 48 rfl ?_
  refine cg_6_3 hX mw_87 dX3_takeOver_48 51 rfl ?_
  refine zg_iconst hX dX3_takeOver_51 52 rfl ?_
  refine zg_bipush hX dX3_takeOver_52 54 rfl (by decide) ?_
  refine zg_copy (k0 := 16) (k1 := 10) hX (cW cI q f (pu (pu (pu (pu r 3 (fun j => if j < 4 then (r 8) j else (r 3) j)) 4 (fun j => if j < 4 then (r 9) j else (r 4) j)) 5 (fun j => if j < 4 then (r 10) j else (r 5) j)) 6 (fun j => if j < 6 then (r 11) j else (r 6) j))) 6 mw_602 mw_490 mw_489 mw_13 rfl rfl (by decide) (by decide) (by decide) (by omega) (Nat.le_of_ble_eq_true rfl) rfl dX3_takeOver_54 57 rfl ?_
  refine zg_aload_n hX 1 rfl dX3_takeOver_57 rfl 58 rfl ?_
  refine cg_12_4 hX mw_88 dX3_takeOver_58 61 rfl ?_
  refine zg_iconst hX dX3_takeOver_61 62 rfl ?_
  refine zg_aload_n hX 0 rfl dX3_takeOver_62 rfl 63 rfl ?_
  refine cg_6_4 hX mw_88 dX3_takeOver_63 66 rfl ?_
  refine zg_iconst hX dX3_takeOver_66 67 rfl ?_
  refine zg_bipush hX dX3_takeOver_67 69 rfl (by decide) ?_
  refine zg_copy (k0 := 17) (k1 := 11) hX (cW cI q f (pu (pu (pu (pu (pu r 3 (fun j => if j < 4 then (r 8) j else (r 3) j)) 4 (fun j => if j < 4 then (r 9) j else (r 4) j)) 5 (fun j => if j < 4 then (r 10) j else (r 5) j)) 6 (fun j => if j < 6 then (r 11) j else (r 6) j)) 7 (fun j => if j < 6 then (r 12) j else (r 7) j))) 6 mw_602 mw_490 mw_489 mw_13 rfl rfl (by decide) (by decide) (by decide) (by omega) (Nat.le_of_ble_eq_true rfl) rfl dX3_takeOver_69 72 rfl ?_
  refine zg_aload_n hX 0 rfl dX3_takeOver_72 rfl 73 rfl ?_
  refine zg_aload_n hX 1 rfl dX3_takeOver_73 rfl 74 rfl ?_
  refine cg_12_5 hX mw_89 (f 10) rfl dX3_takeOver_74 77 rfl ?_
  refine cp_6_5 hX mw_89 dX3_takeOver_77 80 rfl ?_
  refine zg_aload_n hX 0 rfl dX3_takeOver_80 rfl 81 rfl ?_
  refine zg_aload_n hX 1 rfl dX3_takeOver_81 rfl 82 rfl ?_
  refine cg_12_6 hX mw_91 (f 11) rfl dX3_takeOver_82 85 rfl ?_
  refine cp_6_6 hX mw_91 dX3_takeOver_85 88 rfl ?_
  refine zg_aload_n hX 0 rfl dX3_takeOver_88 rfl 89 rfl ?_
  refine zg_aload_n hX 1 rfl dX3_takeOver_89 rfl 90 rfl ?_
  refine cg_12_7 hX mw_99 (f 12) rfl dX3_takeOver_90 93 rfl ?_
  refine cp_6_7 hX mw_99 dX3_takeOver_93 96 rfl ?_
  refine zg_aload_n hX 0 rfl dX3_takeOver_96 rfl 97 rfl ?_
  refine zg_aload_n hX 1 rfl dX3_takeOver_97 rfl 98 rfl ?_
  refine cg_12_8 hX mw_102 (f 13) rfl dX3_takeOver_98 101 rfl ?_
  refine cp_6_8 hX mw_102 dX3_takeOver_101 104 rfl ?_
  refine zg_aload_n hX 0 rfl dX3_takeOver_104 rfl 105 rfl ?_
  refine zg_aload_n hX 1 rfl dX3_takeOver_105 rfl 106 rfl ?_
  refine cg_12_9 hX mw_103 (f 14) rfl dX3_takeOver_106 109 rfl ?_
  refine cp_6_9 hX mw_103 dX3_takeOver_109 112 rfl ?_
  refine zg_aload_n hX 0 rfl dX3_takeOver_112 rfl 113 rfl ?_
  refine zg_aload_n hX 1 rfl dX3_takeOver_113 rfl 114 rfl ?_
  refine cg_12_10 hX mw_105 (f 15) rfl dX3_takeOver_114 117 rfl ?_
  refine cp_6_10 hX mw_105 dX3_takeOver_117 120 rfl ?_
  refine zg_aload_n hX 0 rfl dX3_takeOver_120 rfl 121 rfl ?_
  refine zg_aload_n hX 1 rfl dX3_takeOver_121 rfl 122 rfl ?_
  refine cg_12_11 hX mw_107 (f 16) rfl dX3_takeOver_122 125 rfl ?_
  refine cp_6_11 hX mw_107 dX3_takeOver_125 128 rfl ?_
  exact zg_vret hX hR (Nat.le_refl _) (Nat.le_refl _) rfl dX3_takeOver_128 (⟨rfl, rfl⟩)
-- Evening.takeOver
set_option maxRecDepth 20000 in
theorem c_X3_takeOver_12 (l : Launch) (D : va_G) (cI : ClassId) (q : Nat → Nat) (f : Nat → Int) (r : Nat → Nat → Int)   : Cn l D cI yX3_takeOver cX3_takeOver 2 none 1 0 0 [.ref (q 12), .ref (q 6)] (cW cI q f r) (pW none (cW cI q (pu (pu (pu (pu (pu (pu (pu f 10 (f 3)) 11 (f 4)) 12 (f 5)) 13 (f 6)) 14 (f 7)) 15 (f 8)) 16 (f 9)) (pu (pu (pu (pu (pu r 8 (fun j => if j < 4 then (r 3) j else (r 8) j)) 9 (fun j => if j < 4 then (r 4) j else (r 9) j)) 10 (fun j => if j < 4 then (r 5) j else (r 10) j)) 11 (fun j => if j < 6 then (r 6) j else (r 11) j)) 12 (fun j => if j < 6 then (r 7) j else (r 12) j)))) := by
  refine Cn.of [(0, .ref (q 12)), (1, .ref (q 6))] (by decide +kernel) (Nat.le_of_ble_eq_true rfl) rfl (fun X hX hR => ?_)
  refine zg_aload_n hX 1 rfl dX3_takeOver_0 rfl 1 rfl ?_
  refine cg_6_0 hX mw_80 dX3_takeOver_1 4 rfl ?_
  refine zg_iconst hX dX3_takeOver_4 5 rfl ?_
  refine zg_aload_n hX 0 rfl dX3_takeOver_5 rfl 6 rfl ?_
  refine cg_12_0 hX mw_80 dX3_takeOver_6 9 rfl ?_
  refine zg_iconst hX dX3_takeOver_9 10 rfl ?_
  refine zg_iconst hX dX3_takeOver_10 11 rfl ?_
  refine zg_copy (k0 := 7) (k1 := 13) hX (cW cI q f (pu r 8 (fun j => if j < 4 then (r 3) j else (r 8) j))) 4 mw_602 mw_490 mw_489 mw_13 rfl rfl (by decide) (by decide) (by decide) (by omega) (Nat.le_of_ble_eq_true rfl) rfl dX3_takeOver_11 14 rfl ?_
  refine zg_aload_n hX 1 rfl dX3_takeOver_14 rfl 15 rfl ?_
  refine cg_6_1 hX mw_83 dX3_takeOver_15 18 rfl ?_
  refine zg_iconst hX dX3_takeOver_18 19 rfl ?_
  refine zg_aload_n hX 0 rfl dX3_takeOver_19 rfl 20 rfl ?_
  refine cg_12_1 hX mw_83 dX3_takeOver_20 23 rfl ?_
  refine zg_iconst hX dX3_takeOver_23 24 rfl ?_
  refine zg_iconst hX dX3_takeOver_24 25 rfl ?_
  refine zg_copy (k0 := 8) (k1 := 14) hX (cW cI q f (pu (pu r 8 (fun j => if j < 4 then (r 3) j else (r 8) j)) 9 (fun j => if j < 4 then (r 4) j else (r 9) j))) 4 mw_602 mw_490 mw_489 mw_13 rfl rfl (by decide) (by decide) (by decide) (by omega) (Nat.le_of_ble_eq_true rfl) rfl dX3_takeOver_25 28 rfl ?_
  refine zg_aload_n hX 1 rfl dX3_takeOver_28 rfl 29 rfl ?_
  refine cg_6_2 hX mw_85 dX3_takeOver_29 32 rfl ?_
  refine zg_iconst hX dX3_takeOver_32 33 rfl ?_
  refine zg_aload_n hX 0 rfl dX3_takeOver_33 rfl 34 rfl ?_
  refine cg_12_2 hX mw_85 dX3_takeOver_34 37 rfl ?_
  refine zg_iconst hX dX3_takeOver_37 38 rfl ?_
  refine zg_iconst hX dX3_takeOver_38 39 rfl ?_
  refine zg_copy (k0 := 9) (k1 := 15) hX (cW cI q f (pu (pu (pu r 8 (fun j => if j < 4 then (r 3) j else (r 8) j)) 9 (fun j => if j < 4 then (r 4) j else (r 9) j)) 10 (fun j => if j < 4 then (r 5) j else (r 10) j))) 4 mw_602 mw_490 mw_489 mw_13 rfl rfl (by decide) (by decide) (by decide) (by omega) (Nat.le_of_ble_eq_true rfl) rfl dX3_takeOver_39 42 rfl ?_
  refine zg_aload_n hX 1 rfl dX3_takeOver_42 rfl 43 rfl ?_
  refine cg_6_3 hX mw_87 dX3_takeOver_43 46 rfl ?_
  refine zg_iconst hX dX3_takeOver_46 47 rfl ?_
  refine zg_aload_n hX 0 rfl dX3_takeOver_47 rfl 48 rfl ?_
  refine cg_12_3 hX mw_87 dX3_takeOver_48 51 rfl ?_
  refine zg_iconst hX dX3_takeOver_51 52 rfl ?_
  refine zg_bipush hX dX3_takeOver_52 54 rfl (by decide) ?_
  refine zg_copy (k0 := 10) (k1 := 16) hX (cW cI q f (pu (pu (pu (pu r 8 (fun j => if j < 4 then (r 3) j else (r 8) j)) 9 (fun j => if j < 4 then (r 4) j else (r 9) j)) 10 (fun j => if j < 4 then (r 5) j else (r 10) j)) 11 (fun j => if j < 6 then (r 6) j else (r 11) j))) 6 mw_602 mw_490 mw_489 mw_13 rfl rfl (by decide) (by decide) (by decide) (by omega) (Nat.le_of_ble_eq_true rfl) rfl dX3_takeOver_54 57 rfl ?_
  refine zg_aload_n hX 1 rfl dX3_takeOver_57 rfl 58 rfl ?_
  refine cg_6_4 hX mw_88 dX3_takeOver_58 61 rfl ?_
  refine zg_iconst hX dX3_takeOver_61 62 rfl ?_
  refine zg_aload_n hX 0 rfl dX3_takeOver_62 rfl 63 rfl ?_
  refine cg_12_4 hX mw_88 dX3_takeOver_63 66 rfl ?_
  refine zg_iconst hX dX3_takeOver_66 67 rfl ?_
  refine zg_bipush hX dX3_takeOver_67 69 rfl (by decide) ?_
  refine zg_copy (k0 := 11) (k1 := 17) hX (cW cI q f (pu (pu (pu (pu (pu r 8 (fun j => if j < 4 then (r 3) j else (r 8) j)) 9 (fun j => if j < 4 then (r 4) j else (r 9) j)) 10 (fun j => if j < 4 then (r 5) j else (r 10) j)) 11 (fun j => if j < 6 then (r 6) j else (r 11) j)) 12 (fun j => if j < 6 then (r 7) j else (r 12) j))) 6 mw_602 mw_490 mw_489 mw_13 rfl rfl (by decide) (by decide) (by decide) (by omega) (Nat.le_of_ble_eq_true rfl) rfl dX3_takeOver_69 72 rfl ?_
  refine zg_aload_n hX 0 rfl dX3_takeOver_72 rfl 73 rfl ?_
  refine zg_aload_n hX 1 rfl dX3_takeOver_73 rfl 74 rfl ?_
  refine cg_6_5 hX mw_89 (f 3) rfl dX3_takeOver_74 77 rfl ?_
  refine cp_12_5 hX mw_89 dX3_takeOver_77 80 rfl ?_
  refine zg_aload_n hX 0 rfl dX3_takeOver_80 rfl 81 rfl ?_
  refine zg_aload_n hX 1 rfl dX3_takeOver_81 rfl 82 rfl ?_
  refine cg_6_6 hX mw_91 (f 4) rfl dX3_takeOver_82 85 rfl ?_
  refine cp_12_6 hX mw_91 dX3_takeOver_85 88 rfl ?_
  refine zg_aload_n hX 0 rfl dX3_takeOver_88 rfl 89 rfl ?_
  refine zg_aload_n hX 1 rfl dX3_takeOver_89 rfl 90 rfl ?_
  refine cg_6_7 hX mw_99 (f 5) rfl dX3_takeOver_90 93 rfl ?_
  refine cp_12_7 hX mw_99 dX3_takeOver_93 96 rfl ?_
  refine zg_aload_n hX 0 rfl dX3_takeOver_96 rfl 97 rfl ?_
  refine zg_aload_n hX 1 rfl dX3_takeOver_97 rfl 98 rfl ?_
  refine cg_6_8 hX mw_102 (f 6) rfl dX3_takeOver_98 101 rfl ?_
  refine cp_12_8 hX mw_102 dX3_takeOver_101 104 rfl ?_
  refine zg_aload_n hX 0 rfl dX3_takeOver_104 rfl 105 rfl ?_
  refine zg_aload_n hX 1 rfl dX3_takeOver_105 rfl 106 rfl ?_
  refine cg_6_9 hX mw_103 (f 7) rfl dX3_takeOver_106 109 rfl ?_
  refine cp_12_9 hX mw_103 dX3_takeOver_109 112 rfl ?_
  refine zg_aload_n hX 0 rfl dX3_takeOver_112 rfl 113 rfl ?_
  refine zg_aload_n hX 1 rfl dX3_takeOver_113 rfl 114 rfl ?_
  refine cg_6_10 hX mw_105 (f 8) rfl dX3_takeOver_114 117 rfl ?_
  refine cp_12_10 hX mw_105 dX3_takeOver_117 120 rfl ?_
  refine zg_aload_n hX 0 rfl dX3_takeOver_120 rfl 121 rfl ?_
  refine zg_aload_n hX 1 rfl dX3_takeOver_121 rfl 122 rfl ?_
  refine cg_6_11 hX mw_107 (f 9) rfl dX3_takeOver_122 125 rfl ?_
  refine cp_12_11 hX mw_107 dX3_takeOver_125 128 rfl ?_
  exact zg_vret hX hR (Nat.le_refl _) (Nat.le_refl _) rfl dX3_takeOver_128 (⟨rfl, rfl⟩)
