theorem sg_X10_in : yX10_in.cls = RX10 ∧ yX10_in.cls ≠ "java/lang/invoke/MethodHandle" ∧ yX10_in.cls ≠ "java/lang/invoke/VarHandle" ∧ (parseMethodDescriptor yX10_in.desc).map (fun d => d.parameters.length) = some 3 := by decide +kernel
theorem sg_X10_isBar : yX10_isBar.cls = RX10 ∧ yX10_isBar.cls ≠ "java/lang/invoke/MethodHandle" ∧ yX10_isBar.cls ≠ "java/lang/invoke/VarHandle" ∧ (parseMethodDescriptor yX10_isBar.desc).map (fun d => d.parameters.length) = some 1 := by decide +kernel
theorem sg_X10_isPlayer : yX10_isPlayer.cls = RX10 ∧ yX10_isPlayer.cls ≠ "java/lang/invoke/MethodHandle" ∧ yX10_isPlayer.cls ≠ "java/lang/invoke/VarHandle" ∧ (parseMethodDescriptor yX10_isPlayer.desc).map (fun d => d.parameters.length) = some 1 := by decide +kernel
theorem sg_X10_lacks : yX10_lacks.cls = RX10 ∧ yX10_lacks.cls ≠ "java/lang/invoke/MethodHandle" ∧ yX10_lacks.cls ≠ "java/lang/invoke/VarHandle" ∧ (parseMethodDescriptor yX10_lacks.desc).map (fun d => d.parameters.length) = some 0 := by decide +kernel
theorem sg_X10_asItIs : yX10_asItIs.cls = RX10 ∧ yX10_asItIs.cls ≠ "java/lang/invoke/MethodHandle" ∧ yX10_asItIs.cls ≠ "java/lang/invoke/VarHandle" ∧ (parseMethodDescriptor yX10_asItIs.desc).map (fun d => d.parameters.length) = some 0 := by decide +kernel
theorem sg_X10_isAwake : yX10_isAwake.cls = RX10 ∧ yX10_isAwake.cls ≠ "java/lang/invoke/MethodHandle" ∧ yX10_isAwake.cls ≠ "java/lang/invoke/VarHandle" ∧ (parseMethodDescriptor yX10_isAwake.desc).map (fun d => d.parameters.length) = some 1 := by decide +kernel
theorem sg_X10_isHeard : yX10_isHeard.cls = RX10 ∧ yX10_isHeard.cls ≠ "java/lang/invoke/MethodHandle" ∧ yX10_isHeard.cls ≠ "java/lang/invoke/VarHandle" ∧ (parseMethodDescriptor yX10_isHeard.desc).map (fun d => d.parameters.length) = some 1 := by decide +kernel
theorem sg_X10_mostOf : yX10_mostOf.cls = RX10 ∧ yX10_mostOf.cls ≠ "java/lang/invoke/MethodHandle" ∧ yX10_mostOf.cls ≠ "java/lang/invoke/VarHandle" ∧ (parseMethodDescriptor yX10_mostOf.desc).map (fun d => d.parameters.length) = some 1 := by decide +kernel
theorem sg_X10_layTakes : yX10_layTakes.cls = RX10 ∧ yX10_layTakes.cls ≠ "java/lang/invoke/MethodHandle" ∧ yX10_layTakes.cls ≠ "java/lang/invoke/VarHandle" ∧ (parseMethodDescriptor yX10_layTakes.desc).map (fun d => d.parameters.length) = some 1 := by decide +kernel
theorem sg_X10_snores : yX10_snores.cls = RX10 ∧ yX10_snores.cls ≠ "java/lang/invoke/MethodHandle" ∧ yX10_snores.cls ≠ "java/lang/invoke/VarHandle" ∧ (parseMethodDescriptor yX10_snores.desc).map (fun d => d.parameters.length) = some 1 := by decide +kernel
theorem sg_X10_plays : yX10_plays.cls = RX10 ∧ yX10_plays.cls ≠ "java/lang/invoke/MethodHandle" ∧ yX10_plays.cls ≠ "java/lang/invoke/VarHandle" ∧ (parseMethodDescriptor yX10_plays.desc).map (fun d => d.parameters.length) = some 1 := by decide +kernel
theorem sg_X10_drinks : yX10_drinks.cls = RX10 ∧ yX10_drinks.cls ≠ "java/lang/invoke/MethodHandle" ∧ yX10_drinks.cls ≠ "java/lang/invoke/VarHandle" ∧ (parseMethodDescriptor yX10_drinks.desc).map (fun d => d.parameters.length) = some 1 := by decide +kernel
theorem sg_X10_lostIn : yX10_lostIn.cls = RX10 ∧ yX10_lostIn.cls ≠ "java/lang/invoke/MethodHandle" ∧ yX10_lostIn.cls ≠ "java/lang/invoke/VarHandle" ∧ (parseMethodDescriptor yX10_lostIn.desc).map (fun d => d.parameters.length) = some 1 := by decide +kernel
theorem sg_X10_layNow : yX10_layNow.cls = RX10 ∧ yX10_layNow.cls ≠ "java/lang/invoke/MethodHandle" ∧ yX10_layNow.cls ≠ "java/lang/invoke/VarHandle" ∧ (parseMethodDescriptor yX10_layNow.desc).map (fun d => d.parameters.length) = some 0 := by decide +kernel
theorem sg_X10_copy : yX10_copy.cls = RX10 ∧ yX10_copy.cls ≠ "java/lang/invoke/MethodHandle" ∧ yX10_copy.cls ≠ "java/lang/invoke/VarHandle" ∧ (parseMethodDescriptor yX10_copy.desc).map (fun d => d.parameters.length) = some 2 := by decide +kernel
-- in
set_option maxRecDepth 20000 in
theorem c_X10_in (l : Launch) (D : va_G) (cI : ClassId) (W0 : va_W) (a b c : Int) (ha : -2147483648 ≤ a ∧ a < 2147483648) (hb : -2147483648 ≤ b ∧ b < 2147483648) (hc : -2147483648 ≤ c ∧ c < 2147483648) : Cn l D cI yX10_in cX10_in 6 (some .boolean) 0 0 0 [.long (zL a), .long (zL b), .long (zL c)] W0 (pI (b2 (decide (b ≤ a ∧ a ≤ c))) W0) := by
  refine Cn.of [(0, .long (zL a)), (2, .long (zL b)), (4, .long (zL c))] (by decide +kernel) (Nat.le_of_ble_eq_true rfl) rfl (fun X hX hR => ?_)
  refine zg_lload_n hX 0 rfl dX10_in_0 rfl 1 rfl ?_
  refine zg_lload_n hX 1 rfl dX10_in_1 rfl 2 rfl ?_
  refine zg_lcmp hX (by omega) (by omega) dX10_in_2 3 rfl ?_
  refine zg_if_lt hX (by split <;> (try split) <;> omega) dX10_in_3 17 (by decide) 6 rfl (fun h3 => ?_) (fun h3 => ?_)
  · have h3a : a < b := by revert h3; split <;> (try split) <;> omega
    have hres : decide (b ≤ a ∧ a ≤ c) = false := decide_eq_false (by omega)
    refine zg_iconst hX dX10_in_17 18 rfl ?_
    exact zg_zret hX hR (Nat.le_refl _) (Nat.le_refl _) (by decide) rfl dX10_in_18 (by first | exact pB_t hres | exact pB_f hres)
  · have h3a : b ≤ a := by revert h3; split <;> (try split) <;> omega
    refine zg_lload_n hX 0 rfl dX10_in_6 rfl 7 rfl ?_
    refine zg_lload hX 2 rfl dX10_in_7 9 rfl ?_
    refine zg_lcmp hX (by omega) (by omega) dX10_in_9 10 rfl ?_
    refine zg_if_gt hX (by split <;> (try split) <;> omega) dX10_in_10 17 (by decide) 13 rfl (fun h10 => ?_) (fun h10 => ?_)
    · have h10a : c < a := by revert h10; split <;> (try split) <;> omega
      have hres : decide (b ≤ a ∧ a ≤ c) = false := decide_eq_false (by omega)
      refine zg_iconst hX dX10_in_17 18 rfl ?_
      exact zg_zret hX hR (Nat.le_refl _) (Nat.le_refl _) (by decide) rfl dX10_in_18 (by first | exact pB_t hres | exact pB_f hres)
    · have h10a : a ≤ c := by revert h10; split <;> (try split) <;> omega
      have hres : decide (b ≤ a ∧ a ≤ c) = true := decide_eq_true (by omega)
      refine zg_iconst hX dX10_in_13 14 rfl ?_
      refine zg_goto hX dX10_in_14 18 (by decide) ?_
      exact zg_zret hX hR (Nat.le_refl _) (Nat.le_refl _) (by decide) rfl dX10_in_18 (by first | exact pB_t hres | exact pB_f hres)
-- isBar
set_option maxRecDepth 20000 in
theorem c_X10_isBar (l : Launch) (D : va_G) (cI : ClassId) (q : Nat → Nat) (f : Nat → Int) (r : Nat → Nat → Int) (ρ : Ru) (a : Int) (hρ : RuOK ρ) (hm : mR f r ρ) (ha : -2147483648 ≤ a ∧ a < 2147483648) : Cn l D cI yX10_isBar cX10_isBar 2 (some .boolean) 1 0 0 [.ref (q 0), .int (zI a)] (mW cI q f r) (pI (b2 (decide (0 ≤ a ∧ a < (rb ρ : Int)))) (mW cI q f r)) := by
  refine Cn.of [(0, .ref (q 0)), (1, .int (zI a))] (by decide +kernel) (Nat.le_of_ble_eq_true rfl) rfl (fun X hX hR => ?_)
  have hl9 := hρ.1
  have hn4 := hρ.2.1
  have hb6 := hρ.2.2.2.1
  refine zg_iload_n hX 1 rfl dX10_isBar_0 rfl 1 rfl ?_
  refine zg_i2l hX (by omega) dX10_isBar_1 2 rfl ?_
  refine zg_lconst (a := 0) hX (by decide) dX10_isBar_2 3 rfl ?_
  refine zg_aload_n hX 0 rfl dX10_isBar_3 rfl 4 rfl ?_
  refine mg_0_6 hX mw_647 (rb ρ : Int) hm.1 dX10_isBar_4 7 rfl ?_
  refine zg_iconst hX dX10_isBar_7 8 rfl ?_
  refine zg_isub hX dX10_isBar_8 9 rfl ?_
  refine zg_i2l hX (by omega) dX10_isBar_9 10 rfl ?_
  refine zg_callSi (As := [.long (zL a), .long (zL 0), .long (zL ((rb ρ : Int) - 1))]) (rest := []) hX (c_X10_in l D cI _ a 0 ((rb ρ : Int) - 1) (by omega) (by omega) (by omega)) mw_746 mw_747 mw_10 mw_748 sg_X10_in.2 (by decide) (by decide) (Nat.le_refl _) (Nat.le_refl _) rfl (Nat.le_of_ble_eq_true rfl) dX10_isBar_10 13 rfl ?_
  exact zg_zret hX hR (Nat.le_refl _) (Nat.le_refl _) (by cases decide (0 ≤ a ∧ a ≤ (rb ρ : Int) - 1) <;> decide) rfl dX10_isBar_13 (pI_of (congrArg b2 (decide_eq_decide.mpr (by omega))))
-- isPlayer
set_option maxRecDepth 20000 in
theorem c_X10_isPlayer (l : Launch) (D : va_G) (cI : ClassId) (q : Nat → Nat) (f : Nat → Int) (r : Nat → Nat → Int) (ρ : Ru) (a : Int) (hρ : RuOK ρ) (hm : mR f r ρ) (ha : -2147483648 ≤ a ∧ a < 2147483648) : Cn l D cI yX10_isPlayer cX10_isPlayer 2 (some .boolean) 1 0 0 [.ref (q 0), .int (zI a)] (mW cI q f r) (pI (b2 (decide (0 ≤ a ∧ a < (rn ρ : Int)))) (mW cI q f r)) := by
  refine Cn.of [(0, .ref (q 0)), (1, .int (zI a))] (by decide +kernel) (Nat.le_of_ble_eq_true rfl) rfl (fun X hX hR => ?_)
  have hl9 := hρ.1
  have hn4 := hρ.2.1
  have hb6 := hρ.2.2.2.1
  refine zg_iload_n hX 1 rfl dX10_isPlayer_0 rfl 1 rfl ?_
  refine zg_i2l hX (by omega) dX10_isPlayer_1 2 rfl ?_
  refine zg_lconst (a := 0) hX (by decide) dX10_isPlayer_2 3 rfl ?_
  refine zg_aload_n hX 0 rfl dX10_isPlayer_3 rfl 4 rfl ?_
  refine mg_0_12 hX mw_653 (rn ρ : Int) hm.2.2.1 dX10_isPlayer_4 7 rfl ?_
  refine zg_iconst hX dX10_isPlayer_7 8 rfl ?_
  refine zg_isub hX dX10_isPlayer_8 9 rfl ?_
  refine zg_i2l hX (by omega) dX10_isPlayer_9 10 rfl ?_
  refine zg_callSi (As := [.long (zL a), .long (zL 0), .long (zL ((rn ρ : Int) - 1))]) (rest := []) hX (c_X10_in l D cI _ a 0 ((rn ρ : Int) - 1) (by omega) (by omega) (by omega)) mw_746 mw_747 mw_10 mw_748 sg_X10_in.2 (by decide) (by decide) (Nat.le_refl _) (Nat.le_refl _) rfl (Nat.le_of_ble_eq_true rfl) dX10_isPlayer_10 13 rfl ?_
  exact zg_zret hX hR (Nat.le_refl _) (Nat.le_refl _) (by cases decide (0 ≤ a ∧ a ≤ (rn ρ : Int) - 1) <;> decide) rfl dX10_isPlayer_13 (pI_of (congrArg b2 (decide_eq_decide.mpr (by omega))))
-- lacks
set_option maxRecDepth 20000 in
theorem c_X10_lacks (l : Launch) (D : va_G) (cI : ClassId) (q : Nat → Nat) (f : Nat → Int) (r : Nat → Nat → Int) (ρ : Ru) (hρ : RuOK ρ) (hm : mR f r ρ) : Cn l D cI yX10_lacks cX10_lacks 1 (some .boolean) 0 0 0 [.ref (q 0)] (mW cI q f r) (pI (b2 (decide (rb ρ = 0))) (mW cI q f r)) := by
  refine Cn.of [(0, .ref (q 0))] (by decide +kernel) (Nat.le_of_ble_eq_true rfl) rfl (fun X hX hR => ?_)
  have hl9 := hρ.1
  have hn4 := hρ.2.1
  have hb6 := hρ.2.2.2.1
  refine zg_aload_n hX 0 rfl dX10_lacks_0 rfl 1 rfl ?_
  refine mg_0_6 hX mw_647 (rb ρ : Int) hm.1 dX10_lacks_1 4 rfl ?_
  refine zg_if_ne hX (by omega) dX10_lacks_4 11 (by decide) 7 rfl (fun h4 => ?_) (fun h4 => ?_)
  · have hres : decide (rb ρ = 0) = false := decide_eq_false (by omega)
    refine zg_iconst hX dX10_lacks_11 12 rfl ?_
    exact zg_zret hX hR (Nat.le_refl _) (Nat.le_refl _) (by decide) rfl dX10_lacks_12 (by first | exact pB_t hres | exact pB_f hres)
  · have hres : decide (rb ρ = 0) = true := decide_eq_true (by omega)
    refine zg_iconst hX dX10_lacks_7 8 rfl ?_
    refine zg_goto hX dX10_lacks_8 12 (by decide) ?_
    exact zg_zret hX hR (Nat.le_refl _) (Nat.le_refl _) (by decide) rfl dX10_lacks_12 (by first | exact pB_t hres | exact pB_f hres)
-- asItIs
set_option maxRecDepth 20000 in
theorem c_X10_asItIs (l : Launch) (D : va_G) (cI : ClassId) (q : Nat → Nat) (f : Nat → Int) (r : Nat → Nat → Int) (ρ : Ru) (hρ : RuOK ρ) (hm : mR f r ρ) : Cn l D cI yX10_asItIs cX10_asItIs 2 none 0 0 0 [.ref (q 0)] (mW cI q f r) (pR (mW cI q f) (fun v r1 => v = none ∧ lay 5 (rn ρ) (fun p => r 3 (4 * p + 1)) r r1)) := by
  refine Cn.of [(0, .ref (q 0))] (by decide +kernel) (Nat.le_of_ble_eq_true rfl) rfl (fun X hX hR => ?_)
  have hl9 := hρ.1
  have hn4 := hρ.2.1
  have hb6 := hρ.2.2.2.1
  refine zg_iconst hX dX10_asItIs_0 1 rfl ?_
  refine zg_istore_n hX [(1, .int (zI 0)), (0, .ref (q 0))] dX10_asItIs_1 rfl (by decide) rfl 2 rfl ?_
  have L2 : ∀ (fuel : Nat) (i : Nat) (R1 : Nat → Nat → Int) (x2_1 : Int), (rn ρ - i < fuel) → (i ≤ rn ρ) → (lay 5 i (fun p => r 3 (4 * p + 1)) r R1) → x2_1 = (i : Int) → G X 2 0 0 (mW cI q f R1) [(0, .ref (q 0)), (1, .int (zI x2_1))] 2 [] := by
    intro fuel
    induction fuel with
    | zero =>
      intro i R1 x2_1 hm2
      exact absurd hm2 (Nat.not_lt_zero _)
    | succ fuel ih2 =>
      intro i R1 x2_1 hm2 hi hR1 ex2_1
      subst ex2_1
      refine zg_iload_n hX 1 rfl dX10_asItIs_2 rfl 3 rfl ?_
      refine zg_aload_n hX 0 rfl dX10_asItIs_3 rfl 4 rfl ?_
      refine mg_0_12 hX mw_653 (rn ρ : Int) hm.2.2.1 dX10_asItIs_4 7 rfl ?_
      refine zg_icmp_ge hX (by omega) (by omega) dX10_asItIs_7 32 (by decide) 10 rfl (fun h7 => ?_) (fun h7 => ?_)
      · exact zg_vret hX hR (Nat.le_refl _) (Nat.le_refl _) rfl dX10_asItIs_32 (⟨R1, rfl, rfl, by rw [show rn ρ = i by omega]; exact hR1⟩)
      · refine zg_aload_n hX 0 rfl dX10_asItIs_10 rfl 11 rfl ?_
        refine mg_0_16 hX mw_657 dX10_asItIs_11 14 rfl ?_
        refine zg_iload_n hX 1 rfl dX10_asItIs_14 rfl 15 rfl ?_
        refine zg_aload_n hX 0 rfl dX10_asItIs_15 rfl 16 rfl ?_
        refine mg_0_13 hX mw_654 dX10_asItIs_16 19 rfl ?_
        refine zg_iconst hX dX10_asItIs_19 20 rfl ?_
        refine zg_iload_n hX 1 rfl dX10_asItIs_20 rfl 21 rfl ?_
        refine zg_imul hX dX10_asItIs_21 22 rfl ?_
        refine zg_iconst hX dX10_asItIs_22 23 rfl ?_
        refine zg_iadd hX dX10_asItIs_23 24 rfl ?_
        refine ma_4 hX (4 * i + 1) (r 3 (4 * i + 1)) (by omega) (by omega) (by rw [hR1.1 3 (by decide)]) dX10_asItIs_24 25 rfl ?_
        refine ms_6 hX i (by omega) (by omega) dX10_asItIs_25 26 rfl ?_
        refine zg_iinc hX [(1, .int (zI ((i : Int) + 1))), (0, .ref (q 0))] 1 rfl dX10_asItIs_26 (by decide) rfl 29 rfl ?_
        refine zg_goto hX dX10_asItIs_29 2 (by decide) ?_
        exact zg_lv _ [1, 0] rfl (ih2 (i + 1) (pu R1 5 (pu (R1 5) i (r 3 (4 * i + 1)))) _ (by omega) (by omega) (lay_s hR1 _ rfl) (by omega))
  exact zg_lv _ [1, 0] rfl (L2 _ 0 r _ (Nat.lt_succ_self _) (by omega) (lay_0 _ _ _) (rfl))
-- isAwake
set_option maxRecDepth 20000 in
theorem c_X10_isAwake (l : Launch) (D : va_G) (cI : ClassId) (q : Nat → Nat) (f : Nat → Int) (r : Nat → Nat → Int) (ρ : Ru) (t : Nat → Nat) (a : Int) (hρ : RuOK ρ) (hm : mR f r ρ) (hn : ∀ p, p < rn ρ → r 5 p = (t p : Int)) (ht : tk ρ t) (ha : -5 ≤ a ∧ a ≤ 5) : Cn l D cI yX10_isAwake cX10_isAwake 2 (some .boolean) 2 0 0 [.ref (q 0), .int (zI a)] (mW cI q f r) (pI (b2 (decide (0 ≤ a) && aw ρ t a.toNat)) (mW cI q f r)) := by
  refine Cn.of [(0, .ref (q 0)), (1, .int (zI a))] (by decide +kernel) (Nat.le_of_ble_eq_true rfl) rfl (fun X hX hR => ?_)
  have hl9 := hρ.1
  have hn4 := hρ.2.1
  have hb6 := hρ.2.2.2.1
  refine zg_aload_n hX 0 rfl dX10_isAwake_0 rfl 1 rfl ?_
  refine zg_iload_n hX 1 rfl dX10_isAwake_1 rfl 2 rfl ?_
  refine zg_callVi (As := [.int (zI a)]) (rest := []) (k0 := 0) (ci := 9) hX (c_X10_isPlayer l D cI q f r ρ a hρ hm (by omega)) mw_821 mw_823 mw_s23 mw_10 mw_824 sg_X10_isPlayer (by decide) (by decide) (Nat.le_refl _) (Nat.le_refl _) rfl rfl rfl (Nat.le_of_ble_eq_true rfl) dX10_isAwake_2 5 rfl ?_
  refine zg_ifb_eq hX dX10_isAwake_5 25 (by decide) 8 rfl (fun h5 => ?_) (fun h5 => ?_)
  · have h5a := of_decide_eq_false h5
    have hres : (decide (0 ≤ a) && aw ρ t a.toNat) = false := by simp [aw]; omega
    refine zg_iconst hX dX10_isAwake_25 26 rfl ?_
    exact zg_zret hX hR (Nat.le_refl _) (Nat.le_refl _) (by decide) rfl dX10_isAwake_26 (by first | exact pB_t hres | exact pB_f hres)
  · have h5a := of_decide_eq_true h5
    have h9a := ht.1 a.toNat
    refine zg_aload_n hX 0 rfl dX10_isAwake_8 rfl 9 rfl ?_
    refine mg_0_16 hX mw_657 dX10_isAwake_9 12 rfl ?_
    refine zg_iload_n hX 1 rfl dX10_isAwake_12 rfl 13 rfl ?_
    refine ma_6 hX a.toNat (t a.toNat : Int) (by omega) (by omega) (hn a.toNat (by omega)) dX10_isAwake_13 14 rfl ?_
    refine zg_aload_n hX 0 rfl dX10_isAwake_14 rfl 15 rfl ?_
    refine mg_0_7 hX mw_648 (rl ρ : Int) hm.2.1 dX10_isAwake_15 18 rfl ?_
    refine zg_icmp_ge hX (by omega) (by omega) dX10_isAwake_18 25 (by decide) 21 rfl (fun h18 => ?_) (fun h18 => ?_)
    · have hres : (decide (0 ≤ a) && aw ρ t a.toNat) = false := by simp [aw]; omega
      refine zg_iconst hX dX10_isAwake_25 26 rfl ?_
      exact zg_zret hX hR (Nat.le_refl _) (Nat.le_refl _) (by decide) rfl dX10_isAwake_26 (by first | exact pB_t hres | exact pB_f hres)
    · have hres : (decide (0 ≤ a) && aw ρ t a.toNat) = true := by simp [aw]; omega
      refine zg_iconst hX dX10_isAwake_21 22 rfl ?_
      refine zg_goto hX dX10_isAwake_22 26 (by decide) ?_
      exact zg_zret hX hR (Nat.le_refl _) (Nat.le_refl _) (by decide) rfl dX10_isAwake_26 (by first | exact pB_t hres | exact pB_f hres)
-- isHeard
set_option maxRecDepth 20000 in
theorem c_X10_isHeard (l : Launch) (D : va_G) (cI : ClassId) (q : Nat → Nat) (f : Nat → Int) (r : Nat → Nat → Int) (ρ : Ru) (t : Nat → Nat) (p : Nat) (hρ : RuOK ρ) (hm : mR f r ρ) (hn : ∀ p, p < rn ρ → r 5 p = (t p : Int)) (ht : tk ρ t) (hp : p < rn ρ) : Cn l D cI yX10_isHeard cX10_isHeard 2 (some .boolean) 3 0 0 [.ref (q 0), .int (zI (p : Int))] (mW cI q f r) (pI (b2 (he ρ t p)) (mW cI q f r)) := by
  refine Cn.of [(0, .ref (q 0)), (1, .int (zI (p : Int)))] (by decide +kernel) (Nat.le_of_ble_eq_true rfl) rfl (fun X hX hR => ?_)
  have hl9 := hρ.1
  have hn4 := hρ.2.1
  have hb6 := hρ.2.2.2.1
  have hk4 := hρ.2.2.1 p
  have hz1 : ((p : Int)).toNat = p := by omega
  have hz2 : ((p : Int) - 1).toNat = p - 1 := by omega
  have hz3 : ((p : Int) + 1).toNat = p + 1 := by omega
  refine zg_aload_n hX 0 rfl dX10_isHeard_0 rfl 1 rfl ?_
  refine zg_iload_n hX 1 rfl dX10_isHeard_1 rfl 2 rfl ?_
  refine zg_callVi (As := [.int (zI (p : Int))]) (rest := []) (k0 := 0) (ci := 9) hX (c_X10_isAwake l D cI q f r ρ t (p : Int) hρ hm hn ht (by omega)) mw_817 mw_819 mw_s22 mw_10 mw_820 sg_X10_isAwake (by decide) (by decide) (Nat.le_refl _) (Nat.le_refl _) rfl rfl rfl (Nat.le_of_ble_eq_true rfl) dX10_isHeard_2 5 rfl ?_
  refine zg_ifb_ne hX dX10_isHeard_5 40 (by decide) 8 rfl (fun h5 => ?_) (fun h5 => ?_)
  · have hres : he ρ t p = true := by rw [hz1] at h5; simp at h5; simp [he, h5]
    refine zg_iconst hX dX10_isHeard_40 41 rfl ?_
    refine zg_goto hX dX10_isHeard_41 45 (by decide) ?_
    exact zg_zret hX hR (Nat.le_refl _) (Nat.le_refl _) (by decide) rfl dX10_isHeard_45 (by first | exact pB_t hres | exact pB_f hres)
  · rw [hz1] at h5
    have h5a : aw ρ t p = false := by simpa using h5
    refine zg_aload_n hX 0 rfl dX10_isHeard_8 rfl 9 rfl ?_
    refine mg_0_13 hX mw_654 dX10_isHeard_9 12 rfl ?_
    refine zg_iconst hX dX10_isHeard_12 13 rfl ?_
    refine zg_iload_n hX 1 rfl dX10_isHeard_13 rfl 14 rfl ?_
    refine zg_imul hX dX10_isHeard_14 15 rfl ?_
    refine ma_4 hX (4 * p) (rk ρ p : Int) (by omega) (by omega) (hm.2.2.2.1 p hp) dX10_isHeard_15 16 rfl ?_
    refine zg_iconst hX dX10_isHeard_16 17 rfl ?_
    refine zg_icmp_ne hX (by omega) (by omega) dX10_isHeard_17 44 (by decide) 20 rfl (fun h17 => ?_) (fun h17 => ?_)
    · have hres : he ρ t p = false := by simp [he, h5a, show ¬ rk ρ p = 2 by omega]
      refine zg_iconst hX dX10_isHeard_44 45 rfl ?_
      exact zg_zret hX hR (Nat.le_refl _) (Nat.le_refl _) (by decide) rfl dX10_isHeard_45 (by first | exact pB_t hres | exact pB_f hres)
    · refine zg_aload_n hX 0 rfl dX10_isHeard_20 rfl 21 rfl ?_
      refine zg_iload_n hX 1 rfl dX10_isHeard_21 rfl 22 rfl ?_
      refine zg_iconst hX dX10_isHeard_22 23 rfl ?_
      refine zg_isub hX dX10_isHeard_23 24 rfl ?_
      refine zg_callVi (As := [.int (zI ((p : Int) - 1))]) (rest := []) (k0 := 0) (ci := 9) hX (c_X10_isAwake l D cI q f r ρ t ((p : Int) - 1) hρ hm hn ht (by omega)) mw_817 mw_819 mw_s22 mw_10 mw_820 sg_X10_isAwake (by decide) (by decide) (Nat.le_refl _) (Nat.le_refl _) rfl rfl rfl (Nat.le_of_ble_eq_true rfl) dX10_isHeard_24 27 rfl ?_
      refine zg_ifb_ne hX dX10_isHeard_27 40 (by decide) 30 rfl (fun h27 => ?_) (fun h27 => ?_)
      · have hres : he ρ t p = true := by
          rw [hz2] at h27; simp at h27
          simp [he, h5a, hp, show rk ρ p = 2 by omega, h27.2, show 0 < p by omega]
        refine zg_iconst hX dX10_isHeard_40 41 rfl ?_
        refine zg_goto hX dX10_isHeard_41 45 (by decide) ?_
        exact zg_zret hX hR (Nat.le_refl _) (Nat.le_refl _) (by decide) rfl dX10_isHeard_45 (by first | exact pB_t hres | exact pB_f hres)
      · have h27a : (decide (0 < p) && aw ρ t (p - 1)) = false := by
          rw [hz2] at h27; rw [← h27]; congr 1; exact decide_eq_decide.mpr (by omega)
        refine zg_aload_n hX 0 rfl dX10_isHeard_30 rfl 31 rfl ?_
        refine zg_iload_n hX 1 rfl dX10_isHeard_31 rfl 32 rfl ?_
        refine zg_iconst hX dX10_isHeard_32 33 rfl ?_
        refine zg_iadd hX dX10_isHeard_33 34 rfl ?_
        refine zg_callVi (As := [.int (zI ((p : Int) + 1))]) (rest := []) (k0 := 0) (ci := 9) hX (c_X10_isAwake l D cI q f r ρ t ((p : Int) + 1) hρ hm hn ht (by omega)) mw_817 mw_819 mw_s22 mw_10 mw_820 sg_X10_isAwake (by decide) (by decide) (Nat.le_refl _) (Nat.le_refl _) rfl rfl rfl (Nat.le_of_ble_eq_true rfl) dX10_isHeard_34 37 rfl ?_
        refine zg_ifb_eq hX dX10_isHeard_37 44 (by decide) 40 rfl (fun h37 => ?_) (fun h37 => ?_)
        · have hres : he ρ t p = false := by
            rw [hz3] at h37; simp at h37
            simp only [he, h5a, h27a, h37 (by omega)]; simp
          refine zg_iconst hX dX10_isHeard_44 45 rfl ?_
          exact zg_zret hX hR (Nat.le_refl _) (Nat.le_refl _) (by decide) rfl dX10_isHeard_45 (by first | exact pB_t hres | exact pB_f hres)
        · have hres : he ρ t p = true := by
            rw [hz3] at h37; simp at h37
            simp [he, h5a, hp, show rk ρ p = 2 by omega, h37.2]
          refine zg_iconst hX dX10_isHeard_40 41 rfl ?_
          refine zg_goto hX dX10_isHeard_41 45 (by decide) ?_
          exact zg_zret hX hR (Nat.le_refl _) (Nat.le_refl _) (by decide) rfl dX10_isHeard_45 (by first | exact pB_t hres | exact pB_f hres)
-- mostOf
set_option maxRecDepth 20000 in
theorem c_X10_mostOf (l : Launch) (D : va_G) (cI : ClassId) (W0 : va_W) (k : Nat) (hk : k ≤ 4) : Cn l D cI yX10_mostOf cX10_mostOf 1 (some .int) 0 0 0 [.int (zI (k : Int))] W0 (pI (mo k : Int) W0) := by
  refine Cn.of [(0, .int (zI (k : Int)))] (by decide +kernel) (Nat.le_of_ble_eq_true rfl) rfl (fun X hX hR => ?_)
  refine zg_iload_n hX 0 rfl dX10_mostOf_0 rfl 1 rfl ?_
  refine zg_iconst hX dX10_mostOf_1 2 rfl ?_
  refine zg_icmp_ne hX (by omega) (by omega) dX10_mostOf_2 9 (by decide) 5 rfl (fun h2 => ?_) (fun h2 => ?_)
  · refine zg_iload_n hX 0 rfl dX10_mostOf_9 rfl 10 rfl ?_
    refine zg_iconst hX dX10_mostOf_10 11 rfl ?_
    refine zg_icmp_ne hX (by omega) (by omega) dX10_mostOf_11 18 (by decide) 14 rfl (fun h11 => ?_) (fun h11 => ?_)
    · refine zg_iconst hX dX10_mostOf_18 19 rfl ?_
      exact zg_iret hX hR (Nat.le_refl _) (Nat.le_refl _) rfl dX10_mostOf_19 (pI_of (by unfold mo; first | rw [if_pos (by omega)]; rfl | rw [if_neg (by omega), if_pos (by omega)]; rfl | rw [if_neg (by omega), if_neg (by omega)]; rfl))
    · refine zg_iconst hX dX10_mostOf_14 15 rfl ?_
      refine zg_goto hX dX10_mostOf_15 19 (by decide) ?_
      exact zg_iret hX hR (Nat.le_refl _) (Nat.le_refl _) rfl dX10_mostOf_19 (pI_of (by unfold mo; first | rw [if_pos (by omega)]; rfl | rw [if_neg (by omega), if_pos (by omega)]; rfl | rw [if_neg (by omega), if_neg (by omega)]; rfl))
  · refine zg_iconst hX dX10_mostOf_5 6 rfl ?_
    refine zg_goto hX dX10_mostOf_6 19 (by decide) ?_
    exact zg_iret hX hR (Nat.le_refl _) (Nat.le_refl _) rfl dX10_mostOf_19 (pI_of (by unfold mo; first | rw [if_pos (by omega)]; rfl | rw [if_neg (by omega), if_pos (by omega)]; rfl | rw [if_neg (by omega), if_neg (by omega)]; rfl))
-- layTakes
set_option maxRecDepth 20000 in
theorem c_X10_layTakes (l : Launch) (D : va_G) (cI : ClassId) (q : Nat → Nat) (f : Nat → Int) (r : Nat → Nat → Int) (ρ : Ru) (t : Nat → Nat) (b : Nat) (hρ : RuOK ρ) (hm : mR f r ρ) (hn : ∀ p, p < rn ρ → r 5 p = (t p : Int)) (ht : tk ρ t) (hb : b < rb ρ) : Cn l D cI yX10_layTakes cX10_layTakes 6 (some .int) 4 0 0 [.ref (q 0), .int (zI (b : Int))] (mW cI q f r) (pR (mW cI q f) (fun v r1 => v = some (.int (zI (lo ρ b t : Int))) ∧ (∀ k, k ≠ 6 → r1 k = r k) ∧ ∀ p, p < rn ρ → r1 6 p = (sh ρ b t p : Int))) := by
  refine Cn.of [(0, .ref (q 0)), (1, .int (zI (b : Int)))] (by decide +kernel) (Nat.le_of_ble_eq_true rfl) rfl (fun X hX hR => ?_)
  have hl9 := hρ.1
  have hn4 := hρ.2.1
  have hb6 := hρ.2.2.2.1
  have hp4 := hρ.2.2.2.2.2 b
  refine zg_aload_n hX 0 rfl dX10_layTakes_0 rfl 1 rfl ?_
  refine mg_0_11 hX mw_652 dX10_layTakes_1 4 rfl ?_
  refine zg_iconst hX dX10_layTakes_4 5 rfl ?_
  refine zg_iload_n hX 1 rfl dX10_layTakes_5 rfl 6 rfl ?_
  refine zg_imul hX dX10_layTakes_6 7 rfl ?_
  refine zg_iconst hX dX10_layTakes_7 8 rfl ?_
  refine zg_iadd hX dX10_layTakes_8 9 rfl ?_
  refine ma_3 hX (2 * b + 1) (rp ρ b : Int) (by omega) (by omega) (hm.2.2.2.2.2 b hb) dX10_layTakes_9 10 rfl ?_
  refine zg_istore_n hX [(2, .int (zI (rp ρ b : Int))), (0, .ref (q 0)), (1, .int (zI (b : Int)))] dX10_layTakes_10 rfl (by decide) rfl 11 rfl ?_
  refine zg_iconst hX dX10_layTakes_11 12 rfl ?_
  refine zg_istore_n hX [(3, .int (zI 0)), (2, .int (zI (rp ρ b : Int))), (0, .ref (q 0)), (1, .int (zI (b : Int)))] dX10_layTakes_12 rfl (by decide) rfl 13 rfl ?_
  refine zg_iconst hX dX10_layTakes_13 14 rfl ?_
  refine zg_istore hX [(4, .int (zI 0)), (3, .int (zI 0)), (2, .int (zI (rp ρ b : Int))), (0, .ref (q 0)), (1, .int (zI (b : Int)))] dX10_layTakes_14 (by decide) rfl 16 rfl ?_
  have L16 : ∀ (fuel : Nat) (i : Nat) (R1 : Nat → Nat → Int) (x16_3 : Int) (x16_4 : Int), (rn ρ - i < fuel) → (i ≤ rn ρ) → (lay 6 i (fun _ => 0) r R1) → x16_3 = ((mk (he ρ t) i : Nat) : Int) → x16_4 = (i : Int) → G X 6 0 0 (mW cI q f R1) [(0, .ref (q 0)), (1, .int (zI (b : Int))), (2, .int (zI (rp ρ b : Int))), (3, .int (zI x16_3)), (4, .int (zI x16_4))] 16 [] := by
    intro fuel
    induction fuel with
    | zero =>
      intro i R1 x16_3 x16_4 hm16
      exact absurd hm16 (Nat.not_lt_zero _)
    | succ fuel ih16 =>
      intro i R1 x16_3 x16_4 hm16 hi hR1 ex16_3 ex16_4
      subst ex16_3
      subst ex16_4
      refine zg_iload hX 4 rfl dX10_layTakes_16 18 rfl ?_
      refine zg_aload_n hX 0 rfl dX10_layTakes_18 rfl 19 rfl ?_
      refine mg_0_12 hX mw_653 (rn ρ : Int) hm.2.2.1 dX10_layTakes_19 22 rfl ?_
      refine zg_icmp_ge hX (by omega) (by omega) dX10_layTakes_22 59 (by decide) 25 rfl (fun h22 => ?_) (fun h22 => ?_)
      · have L59 : ∀ (fuel : Nat) (m : Nat) (w : Nat → Bool) (left : Nat) (s : Nat → Nat) (R2 : Nat → Nat → Int) (x59_2 : Int) (x59_3 : Int), (m < fuel) → (cw w ≤ m) → (∀ p, w p = true → p < rn ρ) → (left ≤ 4) → (shg ρ t m w left s = shg ρ t 4 (he ρ t) (rp ρ b) (fun _ => 0)) → (∀ k, k ≠ 6 → R2 k = r k) → (∀ p, p < rn ρ → R2 6 p = (s p : Int)) → x59_2 = (left : Int) → x59_3 = ((mk w 4 : Nat) : Int) → G X 6 0 0 (mW cI q f R2) [(0, .ref (q 0)), (1, .int (zI (b : Int))), (2, .int (zI x59_2)), (3, .int (zI x59_3))] 59 [] := by
          intro fuel
          induction fuel with
          | zero =>
            intro m w left s R2 x59_2 x59_3 hm59
            exact absurd hm59 (Nat.not_lt_zero _)
          | succ fuel ih59 =>
            intro m w left s R2 x59_2 x59_3 hm59 hcw hw hle hfin hR2 hR6 ex59_2 ex59_3
            subst ex59_2
            subst ex59_3
            have hmw := mk_rng w 4 (by omega)
            refine zg_iload_n hX 3 rfl dX10_layTakes_59 rfl 60 rfl ?_
            refine zg_if_eq hX (by omega) dX10_layTakes_60 181 (by decide) 63 rfl (fun h60 => ?_) (fun h60 => ?_)
            · have hse : shg ρ t 4 (he ρ t) (rp ρ b) (fun _ => 0) = (s, left) := by rw [← hfin, shg_done (mk_zero.mp (by omega))]
              refine zg_iload_n hX 2 rfl dX10_layTakes_181 rfl 182 rfl ?_
              exact zg_iret hX hR (Nat.le_refl _) (Nat.le_refl _) rfl dX10_layTakes_182 (⟨R2, rfl, by rw [lo, hse], hR2, fun p hp => by rw [sh, hse]; exact hR6 p hp⟩)
            · have hnx : nx w t 4 < 4 ∧ w (nx w t 4) = true := by
                rcases nx_or w t 4 (by omega) with ⟨_, h2⟩ | h2
                · exact absurd (by rw [mk_zero.mpr h2]; rfl) h60
                · exact h2
              have hmo := mo_rng (rk ρ (nx w t 4))
              have hxn := hw _ hnx.2
              have hnr : nx w t (rn ρ) = nx w t 4 := (nx_more 4 (fun j hj => by cases hq : w j with
                | false => rfl
                | true => exact absurd (hw j hq) (by omega)) hn4).symm
              refine zg_iconst hX dX10_layTakes_63 64 rfl ?_
              refine zg_istore hX [(4, .int (zI (-1))), (0, .ref (q 0)), (1, .int (zI (b : Int))), (2, .int (zI (left : Int))), (3, .int (zI ((mk w 4 : Nat) : Int)))] dX10_layTakes_64 (by decide) rfl 66 rfl ?_
              refine zg_iconst hX dX10_layTakes_66 67 rfl ?_
              refine zg_istore hX [(5, .int (zI 0)), (4, .int (zI (-1))), (0, .ref (q 0)), (1, .int (zI (b : Int))), (2, .int (zI (left : Int))), (3, .int (zI ((mk w 4 : Nat) : Int)))] dX10_layTakes_67 (by decide) rfl 69 rfl ?_
              have L69 : ∀ (fuel : Nat) (i2 : Nat) (x69_4 : Int) (x69_5 : Int), (rn ρ - i2 < fuel) → (i2 ≤ rn ρ) → x69_4 = (nxm w t i2) → x69_5 = (i2 : Int) → G X 6 0 0 (mW cI q f R2) [(0, .ref (q 0)), (1, .int (zI (b : Int))), (2, .int (zI (left : Int))), (3, .int (zI ((mk w 4 : Nat) : Int))), (4, .int (zI x69_4)), (5, .int (zI x69_5))] 69 [] := by
                intro fuel
                induction fuel with
                | zero =>
                  intro i2 x69_4 x69_5 hm69
                  exact absurd hm69 (Nat.not_lt_zero _)
                | succ fuel ih69 =>
                  intro i2 x69_4 x69_5 hm69 hi2 ex69_4 ex69_5
                  subst ex69_4
                  subst ex69_5
                  refine zg_iload hX 5 rfl dX10_layTakes_69 71 rfl ?_
                  refine zg_aload_n hX 0 rfl dX10_layTakes_71 rfl 72 rfl ?_
                  refine mg_0_12 hX mw_653 (rn ρ : Int) hm.2.2.1 dX10_layTakes_72 75 rfl ?_
                  refine zg_icmp_ge hX (by omega) (by omega) dX10_layTakes_75 126 (by decide) 78 rfl (fun h75 => ?_) (fun h75 => ?_)
                  · have el126_4 : (nxm w t i2 : Int) = (nx w t 4 : Int) := by unfold nxm; rw [show i2 = rn ρ by omega, hnr, if_neg (by omega)]
                    refine zg_to (lv2 := [(0, .ref (q 0)), (1, .int (zI (b : Int))), (2, .int (zI (left : Int))), (3, .int (zI ((mk w 4 : Nat) : Int))), (4, .int (zI (nx w t 4 : Int))), (5, .int (zI (i2 : Int)))]) (ws2 := (mW cI q f R2)) (st2 := []) ?_ rfl (by rw [el126_4]) rfl
                    refine zg_aload_n hX 0 rfl dX10_layTakes_126 rfl 127 rfl ?_
                    refine mg_0_13 hX mw_654 dX10_layTakes_127 130 rfl ?_
                    refine zg_iconst hX dX10_layTakes_130 131 rfl ?_
                    refine zg_iload hX 4 rfl dX10_layTakes_131 133 rfl ?_
                    refine zg_imul hX dX10_layTakes_133 134 rfl ?_
                    refine ma_4 hX (4 * nx w t 4) (rk ρ (nx w t 4) : Int) (by omega) (by omega) (by rw [hR2 3 (by decide)]; exact hm.2.2.2.1 _ hxn) dX10_layTakes_134 135 rfl ?_
                    refine zg_callSi (As := [.int (zI (rk ρ (nx w t 4) : Int))]) (rest := []) hX (c_X10_mostOf l D cI _ (rk ρ (nx w t 4)) (hρ.2.2.1 _)) mw_825 mw_826 mw_10 mw_827 sg_X10_mostOf.2 (by decide) (by decide) (Nat.le_refl _) (Nat.le_refl _) rfl (Nat.le_of_ble_eq_true rfl) dX10_layTakes_135 138 rfl ?_
                    refine zg_istore hX [(5, .int (zI (mo (rk ρ (nx w t 4)) : Int))), (0, .ref (q 0)), (1, .int (zI (b : Int))), (2, .int (zI (left : Int))), (3, .int (zI ((mk w 4 : Nat) : Int))), (4, .int (zI (nx w t 4 : Int)))] dX10_layTakes_138 (by decide) rfl 140 rfl ?_
                    refine zg_aload_n hX 1 rfl dX10_layTakes_140 rfl 141 rfl ?_
                    refine mg_0_17 hX mw_658 dX10_layTakes_141 144 rfl ?_
                    refine zg_iload hX 5 rfl dX10_layTakes_144 146 rfl ?_
                    refine zg_iload_n hX 3 rfl dX10_layTakes_146 rfl 147 rfl ?_
                    refine zg_iload hX 0 rfl dX10_layTakes_147 149 rfl ?_
                    have J158 : ∀ x : Int, x = ((min left (mo (rk ρ (nx w t 4))) : Nat) : Int) → G X 6 0 0 (mW cI q f R2) [(5, .int (zI (mo (rk ρ (nx w t 4)) : Int))), (0, .ref (q 0)), (1, .int (zI (b : Int))), (2, .int (zI (left : Int))), (3, .int (zI ((mk w 4 : Nat) : Int))), (4, .int (zI (nx w t 4 : Int)))] 158 [.int (zI x), .int (zI (nx w t 4 : Int)), .ref (q 7)] := by
                      intro x hx158
                      subst hx158
                      refine ms_7 hX (nx w t 4) (by omega) (by omega) dX10_layTakes_158 159 rfl ?_
                      refine zg_iload_n hX 3 rfl dX10_layTakes_159 rfl 160 rfl ?_
                      refine zg_aload_n hX 1 rfl dX10_layTakes_160 rfl 161 rfl ?_
                      refine mg_0_17 hX mw_658 dX10_layTakes_161 164 rfl ?_
                      refine zg_iload hX 5 rfl dX10_layTakes_164 166 rfl ?_
                      refine ma_7 hX (nx w t 4) ((min left (mo (rk ρ (nx w t 4))) : Nat) : Int) (by omega) (by omega) (by rw [pu_eq, pu_eq]) dX10_layTakes_166 167 rfl ?_
                      refine zg_isub hX dX10_layTakes_167 168 rfl ?_
                      refine zg_istore_n hX [(2, .int (zI ((left : Int) - ((min left (mo (rk ρ (nx w t 4))) : Nat) : Int)))), (5, .int (zI (mo (rk ρ (nx w t 4)) : Int))), (0, .ref (q 0)), (1, .int (zI (b : Int))), (3, .int (zI ((mk w 4 : Nat) : Int))), (4, .int (zI (nx w t 4 : Int)))] dX10_layTakes_168 rfl (by decide) rfl 169 rfl ?_
                      refine zg_iload_n hX 4 rfl dX10_layTakes_169 rfl 170 rfl ?_
                      refine zg_iconst hX dX10_layTakes_170 171 rfl ?_
                      refine zg_iload hX 5 rfl dX10_layTakes_171 173 rfl ?_
                      refine zg_ishl hX ((2 ^ (nx w t 4) : Nat) : Int) (zb_shl1 (by omega)) dX10_layTakes_173 174 rfl ?_
                      refine zg_iconst hX dX10_layTakes_174 175 rfl ?_
                      refine zg_ixor hX ((zI ((2 ^ (nx w t 4) : Nat) : Int) ^^^ zI (-1)).toInt) (zI_of _) dX10_layTakes_175 176 rfl ?_
                      refine zg_iand hX ((mk (pu w (nx w t 4) false) 4 : Nat) : Int) (by simp only [zI_back]; exact zb_clr (by omega) (by omega)) dX10_layTakes_176 177 rfl ?_
                      refine zg_istore_n hX [(3, .int (zI ((mk (pu w (nx w t 4) false) 4 : Nat) : Int))), (2, .int (zI ((left : Int) - ((min left (mo (rk ρ (nx w t 4))) : Nat) : Int)))), (5, .int (zI (mo (rk ρ (nx w t 4)) : Int))), (0, .ref (q 0)), (1, .int (zI (b : Int))), (4, .int (zI (nx w t 4 : Int)))] dX10_layTakes_177 rfl (by decide) rfl 178 rfl ?_
                      refine zg_goto hX dX10_layTakes_178 59 (by decide) ?_
                      exact zg_lv _ [3, 4, 1, 0] rfl (ih59 (m - 1) (pu w (nx w t 4) false) (left - min left (mo (rk ρ (nx w t 4)))) (pu s (nx w t 4) (min left (mo (rk ρ (nx w t 4))))) (pu R2 6 (pu (R2 6) (nx w t 4) ((min left (mo (rk ρ (nx w t 4))) : Nat) : Int))) _ _ (by have := cw_pu hnx.1 hnx.2; omega) (by have := cw_pu hnx.1 hnx.2; omega) (fun p hp => by
                          rw [pu_at] at hp
                          split at hp
                          · exact absurd hp (by decide)
                          · exact hw p hp) (by omega) (by rw [← hfin]; exact shg_step (by have := cw_pu hnx.1 hnx.2; omega) hnx.1) (fun k hk => by rw [pu_ne _ _ hk]; exact hR2 k hk) (fun p hp => by
                          rw [pu_eq, pu_at, pu_at]; split
                          · rfl
                          · exact hR6 p hp) (by omega) (rfl))
                    refine zg_icmp_ge hX (by omega) (by omega) dX10_layTakes_149 156 (by decide) 152 rfl (fun h149 => ?_) (fun h149 => ?_)
                    · refine zg_iload hX 0 rfl dX10_layTakes_156 158 rfl ?_
                      exact J158 _ (by omega)
                    · refine zg_iload_n hX 3 rfl dX10_layTakes_152 rfl 153 rfl ?_
                      refine zg_goto hX dX10_layTakes_153 158 (by decide) ?_
                      exact J158 _ (by omega)
                  · have h9i := ht.1 i2
                    have hor := nx_or w t i2 (by omega)
                    refine zg_iload_n hX 3 rfl dX10_layTakes_78 rfl 79 rfl ?_
                    refine zg_iload hX 5 rfl dX10_layTakes_79 81 rfl ?_
                    refine zg_ishr hX ((mk w 4 / 2 ^ i2 : Nat) : Int) (zb_shr (by omega) (by omega)) dX10_layTakes_81 82 rfl ?_
                    refine zg_iconst hX dX10_layTakes_82 83 rfl ?_
                    refine zg_iand hX (b2 (w i2)) (zb_bit (by omega)) dX10_layTakes_83 84 rfl ?_
                    refine zg_iconst hX dX10_layTakes_84 85 rfl ?_
                    have J118 : ∀ x : Int, x = (nxm w t (i2 + 1)) → G X 6 0 0 (mW cI q f R2) [(0, .ref (q 0)), (1, .int (zI (b : Int))), (2, .int (zI (left : Int))), (3, .int (zI ((mk w 4 : Nat) : Int))), (4, .int (zI (nxm w t i2))), (5, .int (zI (i2 : Int)))] 118 [.int (zI x)] := by
                      intro x hx118
                      subst hx118
                      refine zg_istore hX [(4, .int (zI (nxm w t (i2 + 1)))), (0, .ref (q 0)), (1, .int (zI (b : Int))), (2, .int (zI (left : Int))), (3, .int (zI ((mk w 4 : Nat) : Int))), (5, .int (zI (i2 : Int)))] dX10_layTakes_118 (by decide) rfl 120 rfl ?_
                      refine zg_iinc hX [(5, .int (zI ((i2 : Int) + 1))), (4, .int (zI (nxm w t (i2 + 1)))), (0, .ref (q 0)), (1, .int (zI (b : Int))), (2, .int (zI (left : Int))), (3, .int (zI ((mk w 4 : Nat) : Int)))] 5 rfl dX10_layTakes_120 (by decide) rfl 123 rfl ?_
                      refine zg_goto hX dX10_layTakes_123 69 (by decide) ?_
                      exact zg_lv _ [2, 3, 4, 5, 1, 0] rfl (ih69 (i2 + 1) _ _ (by omega) (by omega) (rfl) (by omega))
                    refine zg_icb1_ne hX dX10_layTakes_85 116 (by decide) 88 rfl (fun h85 => ?_) (fun h85 => ?_)
                    · have hnx2 : nx w t (i2 + 1) = nx w t i2 := by simp only [nx]; rw [if_neg (by simp [h85])]
                      refine zg_iload hX 4 rfl dX10_layTakes_116 118 rfl ?_
                      exact J118 _ (by unfold nxm; first | (rw [hnx2]; done) | (rw [hnx2, if_neg (by omega)]))
                    · refine zg_iload hX 4 rfl dX10_layTakes_88 90 rfl ?_
                      refine zg_iconst hX dX10_layTakes_90 91 rfl ?_
                      refine zg_icmp_eq hX (by unfold nxm; split <;> omega) (by omega) dX10_layTakes_91 111 (by decide) 94 rfl (fun h91 => ?_) (fun h91 => ?_)
                      · have hnx2 : nx w t (i2 + 1) = i2 := by
                          simp only [nx]; rw [if_pos ⟨h85, Or.inl (by unfold nxm at h91; split at h91 <;> omega)⟩]
                        refine zg_iload hX 5 rfl dX10_layTakes_111 113 rfl ?_
                        refine zg_goto hX dX10_layTakes_113 118 (by decide) ?_
                        exact J118 _ (by unfold nxm; first | (rw [hnx2]; done) | (rw [hnx2, if_neg (by omega)]))
                      · have h91a : ¬ nx w t i2 = 4 := fun hq => h91 (by unfold nxm; rw [if_pos hq])
                        have hor2 : nx w t i2 < i2 := by rcases hor with h | h; exact absurd h.1 h91a; exact h.1
                        have h9n := ht.1 (nx w t i2)
                        refine zg_aload_n hX 0 rfl dX10_layTakes_94 rfl 95 rfl ?_
                        refine mg_0_16 hX mw_657 dX10_layTakes_95 98 rfl ?_
                        refine zg_iload hX 5 rfl dX10_layTakes_98 100 rfl ?_
                        refine ma_6 hX i2 (t i2 : Int) (by omega) (by omega) (by rw [hR2 5 (by decide)]; exact hn _ (by omega)) dX10_layTakes_100 101 rfl ?_
                        refine zg_aload_n hX 0 rfl dX10_layTakes_101 rfl 102 rfl ?_
                        refine mg_0_16 hX mw_657 dX10_layTakes_102 105 rfl ?_
                        refine zg_iload hX 4 rfl dX10_layTakes_105 107 rfl ?_
                        refine ma_6 hX (nx w t i2) (t (nx w t i2) : Int) (by unfold nxm; rw [if_neg h91a]) (by omega) (by rw [hR2 5 (by decide)]; exact hn _ (by omega)) dX10_layTakes_107 108 rfl ?_
                        refine zg_icmp_ge hX (by omega) (by omega) dX10_layTakes_108 116 (by decide) 111 rfl (fun h108 => ?_) (fun h108 => ?_)
                        · have hnx2 : nx w t (i2 + 1) = nx w t i2 := by
                            simp only [nx]; rw [if_neg (by intro hz; omega)]
                          refine zg_iload hX 4 rfl dX10_layTakes_116 118 rfl ?_
                          exact J118 _ (by unfold nxm; first | (rw [hnx2]; done) | (rw [hnx2, if_neg (by omega)]))
                        · have hnx2 : nx w t (i2 + 1) = i2 := by
                            simp only [nx]; rw [if_pos ⟨h85, Or.inr (by omega)⟩]
                          refine zg_iload hX 5 rfl dX10_layTakes_111 113 rfl ?_
                          refine zg_goto hX dX10_layTakes_113 118 (by decide) ?_
                          exact J118 _ (by unfold nxm; first | (rw [hnx2]; done) | (rw [hnx2, if_neg (by omega)]))
              exact zg_lv _ [2, 3, 4, 5, 1, 0] rfl (L69 _ 0 _ _ (Nat.lt_succ_self _) (by omega) (rfl) (rfl))
        exact zg_lv _ [0, 1, 2, 3] rfl (L59 _ 4 (he ρ t) (rp ρ b) (fun _ => 0) R1 _ _ (Nat.lt_succ_self _) (cw_le _) (fun p hp => he_all p hp) (hρ.2.2.2.2.2 b) (rfl) (hR1.1) (fun p hp => hR1.2 p (by omega)) (rfl) (by rw [mk_more 4 (k := rn ρ) (fun j hj => he_out hj) hn4, show i = rn ρ by omega]))
      · refine zg_aload_n hX 0 rfl dX10_layTakes_25 rfl 26 rfl ?_
        refine mg_0_17 hX mw_658 dX10_layTakes_26 29 rfl ?_
        refine zg_iload hX 4 rfl dX10_layTakes_29 31 rfl ?_
        refine zg_iconst hX dX10_layTakes_31 32 rfl ?_
        refine ms_7 hX i (by omega) (by omega) dX10_layTakes_32 33 rfl ?_
        have hm1 : mR f R1 ρ := mR_r hm (hR1.1 2 (by decide)) (hR1.1 3 (by decide))
        refine zg_iload_n hX 3 rfl dX10_layTakes_33 rfl 34 rfl ?_
        refine zg_aload_n hX 0 rfl dX10_layTakes_34 rfl 35 rfl ?_
        refine zg_iload hX 4 rfl dX10_layTakes_35 37 rfl ?_
        refine zg_callVi (As := [.int (zI (i : Int))]) (rest := [.int (zI ((mk (he ρ t) i : Nat) : Int))]) (k0 := 0) (ci := 9) hX (c_X10_isHeard l D cI q f (pu R1 6 (pu (R1 6) i 0)) ρ t i hρ (mR_r hm1 rfl rfl) (fun p hp => by rw [pu_ne _ _ (by decide), hR1.1 5 (by decide)]; exact hn p hp) ht (by omega)) mw_813 mw_815 mw_s21 mw_10 mw_816 sg_X10_isHeard (by decide) (by decide) (Nat.le_refl _) (Nat.le_refl _) rfl rfl rfl (Nat.le_of_ble_eq_true rfl) dX10_layTakes_37 40 rfl ?_
        have J51 : ∀ x : Int, x = (if he ρ t i then ((2 ^ i : Nat) : Int) else 0) → G X 6 0 0 (mW cI q f (pu R1 6 (pu (R1 6) i 0))) [(0, .ref (q 0)), (1, .int (zI (b : Int))), (2, .int (zI (rp ρ b : Int))), (3, .int (zI ((mk (he ρ t) i : Nat) : Int))), (4, .int (zI (i : Int)))] 51 [.int (zI x), .int (zI ((mk (he ρ t) i : Nat) : Int))] := by
          intro x hx51
          subst hx51
          refine zg_ior hX ((mk (he ρ t) (i + 1) : Nat) : Int) (by
            cases hq : he ρ t i
            · rw [mk_skip hq, show (zI (if (false = true) then ((2 ^ i : Nat) : Int) else 0)) = 0 from rfl]; apply b_ext; intro j hj; rw [b_or, b_0, Bool.or_false]
            · rw [if_pos rfl]; exact zb_top (by omega) hq) dX10_layTakes_51 52 rfl ?_
          refine zg_istore_n hX [(3, .int (zI ((mk (he ρ t) (i + 1) : Nat) : Int))), (0, .ref (q 0)), (1, .int (zI (b : Int))), (2, .int (zI (rp ρ b : Int))), (4, .int (zI (i : Int)))] dX10_layTakes_52 rfl (by decide) rfl 53 rfl ?_
          refine zg_iinc hX [(4, .int (zI ((i : Int) + 1))), (3, .int (zI ((mk (he ρ t) (i + 1) : Nat) : Int))), (0, .ref (q 0)), (1, .int (zI (b : Int))), (2, .int (zI (rp ρ b : Int)))] 4 rfl dX10_layTakes_53 (by decide) rfl 56 rfl ?_
          refine zg_goto hX dX10_layTakes_56 16 (by decide) ?_
          exact zg_lv _ [2, 3, 4, 1, 0] rfl (ih16 (i + 1) (pu R1 6 (pu (R1 6) i 0)) _ _ (by omega) (by omega) (lay_s hR1 _ rfl) (rfl) (by omega))
        refine zg_ifb_eq hX dX10_layTakes_40 50 (by decide) 43 rfl (fun h40 => ?_) (fun h40 => ?_)
        · refine zg_iconst hX dX10_layTakes_50 51 rfl ?_
          exact J51 _ (by simp [h40])
        · refine zg_iconst hX dX10_layTakes_43 44 rfl ?_
          refine zg_iload hX 4 rfl dX10_layTakes_44 46 rfl ?_
          refine zg_ishl hX ((2 ^ i : Nat) : Int) (zb_shl1 (by omega)) dX10_layTakes_46 47 rfl ?_
          refine zg_goto hX dX10_layTakes_47 51 (by decide) ?_
          exact J51 _ (by simp [h40])
  exact zg_lv _ [3, 4, 2, 1, 0] rfl (L16 _ 0 r _ _ (Nat.lt_succ_self _) (by omega) (lay_0 _ _ _) (rfl) (rfl))
-- snores
set_option maxRecDepth 20000 in
theorem c_X10_snores (l : Launch) (D : va_G) (cI : ClassId) (q : Nat → Nat) (f : Nat → Int) (r : Nat → Nat → Int) (ρ : Ru) (t : Nat → Nat) (a : Int) (hρ : RuOK ρ) (hm : mR f r ρ) (hn : ∀ p, p < rn ρ → r 5 p = (t p : Int)) (ht : tk ρ t) (ha : -5 ≤ a ∧ a ≤ 5) : Cn l D cI yX10_snores cX10_snores 2 (some .boolean) 2 0 0 [.ref (q 0), .int (zI a)] (mW cI q f r) (pI (b2 (decide (0 ≤ a) && snr ρ t a.toNat)) (mW cI q f r)) := by
  refine Cn.of [(0, .ref (q 0)), (1, .int (zI a))] (by decide +kernel) (Nat.le_of_ble_eq_true rfl) rfl (fun X hX hR => ?_)
  have hl9 := hρ.1
  have hn4 := hρ.2.1
  have hb6 := hρ.2.2.2.1
  refine zg_aload_n hX 0 rfl dX10_snores_0 rfl 1 rfl ?_
  refine zg_iload_n hX 1 rfl dX10_snores_1 rfl 2 rfl ?_
  refine zg_callVi (As := [.int (zI a)]) (rest := []) (k0 := 0) (ci := 9) hX (c_X10_isPlayer l D cI q f r ρ a hρ hm (by omega)) mw_821 mw_823 mw_s23 mw_10 mw_824 sg_X10_isPlayer (by decide) (by decide) (Nat.le_refl _) (Nat.le_refl _) rfl rfl rfl (Nat.le_of_ble_eq_true rfl) dX10_snores_2 5 rfl ?_
  refine zg_ifb_eq hX dX10_snores_5 37 (by decide) 8 rfl (fun h5 => ?_) (fun h5 => ?_)
  · have h5a := of_decide_eq_false h5
    have hres : (decide (0 ≤ a) && snr ρ t a.toNat) = false := by simp [snr, aw]; omega
    refine zg_iconst hX dX10_snores_37 38 rfl ?_
    exact zg_zret hX hR (Nat.le_refl _) (Nat.le_refl _) (by decide) rfl dX10_snores_38 (by first | exact pB_t hres | exact pB_f hres)
  · have h5a := of_decide_eq_true h5
    have h9a := ht.1 a.toNat
    have hk4 := hρ.2.2.1 a.toNat
    refine zg_aload_n hX 0 rfl dX10_snores_8 rfl 9 rfl ?_
    refine mg_0_13 hX mw_654 dX10_snores_9 12 rfl ?_
    refine zg_iconst hX dX10_snores_12 13 rfl ?_
    refine zg_iload_n hX 1 rfl dX10_snores_13 rfl 14 rfl ?_
    refine zg_imul hX dX10_snores_14 15 rfl ?_
    refine ma_4 hX (4 * a.toNat) (rk ρ a.toNat : Int) (by omega) (by omega) (hm.2.2.2.1 a.toNat (by omega)) dX10_snores_15 16 rfl ?_
    refine zg_iconst hX dX10_snores_16 17 rfl ?_
    refine zg_icmp_ne hX (by omega) (by omega) dX10_snores_17 37 (by decide) 20 rfl (fun h17 => ?_) (fun h17 => ?_)
    · have hres : (decide (0 ≤ a) && snr ρ t a.toNat) = false := by simp [snr, aw]; omega
      refine zg_iconst hX dX10_snores_37 38 rfl ?_
      exact zg_zret hX hR (Nat.le_refl _) (Nat.le_refl _) (by decide) rfl dX10_snores_38 (by first | exact pB_t hres | exact pB_f hres)
    · refine zg_aload_n hX 0 rfl dX10_snores_20 rfl 21 rfl ?_
      refine mg_0_16 hX mw_657 dX10_snores_21 24 rfl ?_
      refine zg_iload_n hX 1 rfl dX10_snores_24 rfl 25 rfl ?_
      refine ma_6 hX a.toNat (t a.toNat : Int) (by omega) (by omega) (hn a.toNat (by omega)) dX10_snores_25 26 rfl ?_
      refine zg_aload_n hX 0 rfl dX10_snores_26 rfl 27 rfl ?_
      refine mg_0_7 hX mw_648 (rl ρ : Int) hm.2.1 dX10_snores_27 30 rfl ?_
      refine zg_icmp_lt hX (by omega) (by omega) dX10_snores_30 37 (by decide) 33 rfl (fun h30 => ?_) (fun h30 => ?_)
      · have hres : (decide (0 ≤ a) && snr ρ t a.toNat) = false := by simp [snr, aw]; omega
        refine zg_iconst hX dX10_snores_37 38 rfl ?_
        exact zg_zret hX hR (Nat.le_refl _) (Nat.le_refl _) (by decide) rfl dX10_snores_38 (by first | exact pB_t hres | exact pB_f hres)
      · have hres : (decide (0 ≤ a) && snr ρ t a.toNat) = true := by simp [snr, aw]; omega
        refine zg_iconst hX dX10_snores_33 34 rfl ?_
        refine zg_goto hX dX10_snores_34 38 (by decide) ?_
        exact zg_zret hX hR (Nat.le_refl _) (Nat.le_refl _) (by decide) rfl dX10_snores_38 (by first | exact pB_t hres | exact pB_f hres)
-- plays
set_option maxRecDepth 20000 in
theorem c_X10_plays (l : Launch) (D : va_G) (cI : ClassId) (q : Nat → Nat) (f : Nat → Int) (r : Nat → Nat → Int) (ρ : Ru) (t : Nat → Nat) (b : Nat) (hρ : RuOK ρ) (hm : mR f r ρ) (hn : ∀ p, p < rn ρ → r 5 p = (t p : Int)) (ht : tk ρ t) (hb : b < rb ρ) : Cn l D cI yX10_plays cX10_plays 6 (some .int) 5 0 0 [.ref (q 0), .int (zI (b : Int))] (mW cI q f r) (pR (mW cI q f) (fun v r1 => v = some (.int (zI (lo ρ b t : Int))) ∧ (∀ k, k ≠ 5 → k ≠ 6 → k ≠ 7 → r1 k = r k) ∧ (∀ p, p < rn ρ → r1 5 p = (be ρ b t p : Int)) ∧ ∀ p, p < rn ρ → r1 6 p = (sh ρ b t p : Int))) := by
  refine Cn.of [(0, .ref (q 0)), (1, .int (zI (b : Int)))] (by decide +kernel) (Nat.le_of_ble_eq_true rfl) rfl (fun X hX hR => ?_)
  have hl9 := hρ.1
  have hn4 := hρ.2.1
  have hb6 := hρ.2.2.2.1
  have hs3 := hρ.2.2.2.2.1 b
  have hsT := sT_rng (rs ρ b)
  have hsf := sh_facts ρ b t hρ
  have hlo := lo_le ρ b t hρ
  refine zg_aload_n hX 0 rfl dX10_plays_0 rfl 1 rfl ?_
  refine zg_iload_n hX 1 rfl dX10_plays_1 rfl 2 rfl ?_
  refine zg_callV (As := [.int (zI (b : Int))]) (rest := []) (k0 := 0) (ci := 9) hX (c_X10_layTakes l D cI q f r ρ t b hρ hm hn ht hb) mw_809 mw_811 mw_s20 mw_10 mw_812 sg_X10_layTakes (by decide) (by decide) (Nat.le_refl _) (Nat.le_refl _) rfl rfl rfl (Nat.le_of_ble_eq_true rfl) dX10_plays_2 5 rfl (fun v2 W2 hp2 => ?_)
  obtain ⟨R1, rfl, rfl, hf1, hs1⟩ := hp2
  show G X 6 0 0 (mW cI q f R1) [(0, .ref (q 0)), (1, .int (zI (b : Int)))] 5 [.int (zI (lo ρ b t : Int))]
  refine zg_istore_n hX [(2, .int (zI (lo ρ b t : Int))), (0, .ref (q 0)), (1, .int (zI (b : Int)))] dX10_plays_5 rfl (by decide) rfl 6 rfl ?_
  refine zg_aload_n hX 1 rfl dX10_plays_6 rfl 7 rfl ?_
  refine mg_0_11 hX mw_652 dX10_plays_7 10 rfl ?_
  refine zg_iconst hX dX10_plays_10 11 rfl ?_
  refine zg_iload_n hX 2 rfl dX10_plays_11 rfl 12 rfl ?_
  refine zg_imul hX dX10_plays_12 13 rfl ?_
  refine ma_3 hX (2 * b) (rs ρ b : Int) (by omega) (by omega) (by rw [hf1 2 (by decide)]; exact hm.2.2.2.2.1 b hb) dX10_plays_13 14 rfl ?_
  refine zg_istore_n hX [(3, .int (zI (rs ρ b : Int))), (2, .int (zI (lo ρ b t : Int))), (0, .ref (q 0)), (1, .int (zI (b : Int)))] dX10_plays_14 rfl (by decide) rfl 15 rfl ?_
  refine zg_iconst hX dX10_plays_15 16 rfl ?_
  refine zg_istore hX [(4, .int (zI 0)), (3, .int (zI (rs ρ b : Int))), (2, .int (zI (lo ρ b t : Int))), (0, .ref (q 0)), (1, .int (zI (b : Int)))] dX10_plays_16 (by decide) rfl 18 rfl ?_
  have L18 : ∀ (fuel : Nat) (i : Nat) (R2 : Nat → Nat → Int) (x18_4 : Int), (rn ρ - i < fuel) → (i ≤ rn ρ) → (lay 7 i (fun p => (be ρ b t p : Int)) R1 R2) → x18_4 = (i : Int) → G X 6 0 0 (mW cI q f R2) [(0, .ref (q 0)), (1, .int (zI (b : Int))), (2, .int (zI (lo ρ b t : Int))), (3, .int (zI (rs ρ b : Int))), (4, .int (zI x18_4))] 18 [] := by
    intro fuel
    induction fuel with
    | zero =>
      intro i R2 x18_4 hm18
      exact absurd hm18 (Nat.not_lt_zero _)
    | succ fuel ih18 =>
      intro i R2 x18_4 hm18 hi hR2 ex18_4
      subst ex18_4
      refine zg_iload hX 4 rfl dX10_plays_18 20 rfl ?_
      refine zg_aload_n hX 0 rfl dX10_plays_20 rfl 21 rfl ?_
      refine mg_0_12 hX mw_653 (rn ρ : Int) hm.2.2.1 dX10_plays_21 24 rfl ?_
      refine zg_icmp_ge hX (by omega) (by omega) dX10_plays_24 159 (by decide) 27 rfl (fun h24 => ?_) (fun h24 => ?_)
      · refine zg_iconst hX dX10_plays_159 160 rfl ?_
        refine zg_istore hX [(4, .int (zI 0)), (0, .ref (q 0)), (1, .int (zI (b : Int))), (2, .int (zI (lo ρ b t : Int))), (3, .int (zI (rs ρ b : Int)))] dX10_plays_160 (by decide) rfl 162 rfl ?_
        have L162 : ∀ (fuel : Nat) (i3 : Nat) (R3 : Nat → Nat → Int) (x162_4 : Int), (rn ρ - i3 < fuel) → (i3 ≤ rn ρ) → (lay 5 i3 (fun p => (be ρ b t p : Int)) R2 R3) → x162_4 = (i3 : Int) → G X 6 0 0 (mW cI q f R3) [(0, .ref (q 0)), (1, .int (zI (b : Int))), (2, .int (zI (lo ρ b t : Int))), (3, .int (zI (rs ρ b : Int))), (4, .int (zI x162_4))] 162 [] := by
          intro fuel
          induction fuel with
          | zero =>
            intro i3 R3 x162_4 hm162
            exact absurd hm162 (Nat.not_lt_zero _)
          | succ fuel ih162 =>
            intro i3 R3 x162_4 hm162 hi3 hR3 ex162_4
            subst ex162_4
            refine zg_iload hX 4 rfl dX10_plays_162 164 rfl ?_
            refine zg_aload_n hX 0 rfl dX10_plays_164 rfl 165 rfl ?_
            refine mg_0_12 hX mw_653 (rn ρ : Int) hm.2.2.1 dX10_plays_165 168 rfl ?_
            refine zg_icmp_ge hX (by omega) (by omega) dX10_plays_168 191 (by decide) 171 rfl (fun h168 => ?_) (fun h168 => ?_)
            · refine zg_iload_n hX 2 rfl dX10_plays_191 rfl 192 rfl ?_
              exact zg_iret hX hR (Nat.le_refl _) (Nat.le_refl _) rfl dX10_plays_192 (⟨R3, rfl, rfl, fun k h5 h6 h7 => by rw [hR3.1 k h5, hR2.1 k h7, hf1 k h6], fun p hp => hR3.2 p (by omega), fun p hp => by rw [hR3.1 6 (by decide), hR2.1 6 (by decide)]; exact hs1 p hp⟩)
            · refine zg_aload_n hX 0 rfl dX10_plays_171 rfl 172 rfl ?_
              refine mg_0_16 hX mw_657 dX10_plays_172 175 rfl ?_
              refine zg_iload hX 4 rfl dX10_plays_175 177 rfl ?_
              refine zg_aload_n hX 0 rfl dX10_plays_177 rfl 178 rfl ?_
              refine mg_0_18 hX mw_659 dX10_plays_178 181 rfl ?_
              refine zg_iload hX 4 rfl dX10_plays_181 183 rfl ?_
              refine ma_8 hX i3 (be ρ b t i3 : Int) (by omega) (by omega) (by rw [hR3.1 7 (by decide)]; exact hR2.2 i3 (by omega)) dX10_plays_183 184 rfl ?_
              refine ms_6 hX i3 (by omega) (by omega) dX10_plays_184 185 rfl ?_
              refine zg_iinc hX [(4, .int (zI ((i3 : Int) + 1))), (0, .ref (q 0)), (1, .int (zI (b : Int))), (2, .int (zI (lo ρ b t : Int))), (3, .int (zI (rs ρ b : Int)))] 4 rfl dX10_plays_185 (by decide) rfl 188 rfl ?_
              refine zg_goto hX dX10_plays_188 162 (by decide) ?_
              exact zg_lv _ [1, 2, 3, 4, 0] rfl (ih162 (i3 + 1) (pu R3 5 (pu (R3 5) i3 (be ρ b t i3 : Int))) _ (by omega) (by omega) (lay_s hR3 _ rfl) (by omega))
        exact zg_lv _ [1, 2, 3, 4, 0] rfl (L162 _ 0 R2 _ (Nat.lt_succ_self _) (by omega) (lay_0 _ _ _) (rfl))
      · have h9i := ht.1 i
        have hs4i := hsf.1 i
        have hbz := bz_rng (ρ := ρ) (b := b) (p := i) (ht.1 i)
        have hm2 : mR f R2 ρ := mR_r hm ((hR2.1 2 (by decide)).trans (hf1 2 (by decide))) ((hR2.1 3 (by decide)).trans (hf1 3 (by decide)))
        have hb1 := b2_rng (snr ρ t (i - 1))
        have hb2 := b2_rng (snr ρ t (i + 1))
        refine zg_aload_n hX 0 rfl dX10_plays_27 rfl 28 rfl ?_
        refine mg_0_16 hX mw_657 dX10_plays_28 31 rfl ?_
        refine zg_iload hX 4 rfl dX10_plays_31 33 rfl ?_
        refine ma_6 hX i (t i : Int) (by omega) (by omega) (by rw [hR2.1 5 (by decide), hf1 5 (by decide)]; exact hn i (by omega)) dX10_plays_33 34 rfl ?_
        refine zg_aload_n hX 0 rfl dX10_plays_34 rfl 35 rfl ?_
        refine mg_0_17 hX mw_658 dX10_plays_35 38 rfl ?_
        refine zg_iload hX 4 rfl dX10_plays_38 40 rfl ?_
        refine ma_7 hX i (sh ρ b t i : Int) (by omega) (by omega) (by rw [hR2.1 6 (by decide)]; exact hs1 i (by omega)) dX10_plays_40 41 rfl ?_
        have J49 : ∀ x : Int, x = (if 0 < sh ρ b t i then 1 else 0) → G X 6 0 0 (mW cI q f R2) [(0, .ref (q 0)), (1, .int (zI (b : Int))), (2, .int (zI (lo ρ b t : Int))), (3, .int (zI (rs ρ b : Int))), (4, .int (zI (i : Int)))] 49 [.int (zI x), .int (zI (t i : Int))] := by
          intro x hx49
          subst hx49
          refine zg_iadd hX dX10_plays_49 50 rfl ?_
          refine zg_iload_n hX 3 rfl dX10_plays_50 rfl 51 rfl ?_
          have J78 : ∀ x : Int, x = (sT (rs ρ b)) → G X 6 0 0 (mW cI q f R2) [(0, .ref (q 0)), (1, .int (zI (b : Int))), (2, .int (zI (lo ρ b t : Int))), (3, .int (zI (rs ρ b : Int))), (4, .int (zI (i : Int)))] 78 [.int (zI x), .int (zI ((t i : Int) + (if 0 < sh ρ b t i then 1 else 0)))] := by
            intro x hx78
            subst hx78
            refine zg_iadd hX dX10_plays_78 79 rfl ?_
            refine zg_istore hX [(5, .int (zI (((t i : Int) + (if 0 < sh ρ b t i then 1 else 0)) + (sT (rs ρ b))))), (0, .ref (q 0)), (1, .int (zI (b : Int))), (2, .int (zI (lo ρ b t : Int))), (3, .int (zI (rs ρ b : Int))), (4, .int (zI (i : Int)))] dX10_plays_79 (by decide) rfl 81 rfl ?_
            refine zg_iload hX 0 rfl dX10_plays_81 83 rfl ?_
            refine zg_aload_n hX 1 rfl dX10_plays_83 rfl 84 rfl ?_
            refine zg_iload hX 5 rfl dX10_plays_84 86 rfl ?_
            refine zg_iconst hX dX10_plays_86 87 rfl ?_
            refine zg_isub hX dX10_plays_87 88 rfl ?_
            refine zg_callVi (As := [.int (zI ((i : Int) - 1))]) (rest := [.int (zI (((t i : Int) + (if 0 < sh ρ b t i then 1 else 0)) + (sT (rs ρ b))))]) (k0 := 0) (ci := 9) hX (c_X10_snores l D cI q f R2 ρ t ((i : Int) - 1) hρ hm2 (fun p hp => by rw [hR2.1 5 (by decide), hf1 5 (by decide)]; exact hn p hp) ht (by omega)) mw_828 mw_830 mw_s24 mw_10 mw_831 sg_X10_snores (by decide) (by decide) (Nat.le_refl _) (Nat.le_refl _) rfl rfl rfl (Nat.le_of_ble_eq_true rfl) dX10_plays_88 91 rfl ?_
            have J99 : ∀ x : Int, x = (if i = 0 then 0 else b2 (snr ρ t (i - 1))) → G X 6 0 0 (mW cI q f R2) [(5, .int (zI (((t i : Int) + (if 0 < sh ρ b t i then 1 else 0)) + (sT (rs ρ b))))), (0, .ref (q 0)), (1, .int (zI (b : Int))), (2, .int (zI (lo ρ b t : Int))), (3, .int (zI (rs ρ b : Int))), (4, .int (zI (i : Int)))] 99 [.int (zI x), .int (zI (((t i : Int) + (if 0 < sh ρ b t i then 1 else 0)) + (sT (rs ρ b))))] := by
              intro x hx99
              subst hx99
              refine zg_isub hX dX10_plays_99 100 rfl ?_
              refine zg_istore hX [(5, .int (zI ((((t i : Int) + (if 0 < sh ρ b t i then 1 else 0)) + (sT (rs ρ b))) - (if i = 0 then 0 else b2 (snr ρ t (i - 1)))))), (0, .ref (q 0)), (1, .int (zI (b : Int))), (2, .int (zI (lo ρ b t : Int))), (3, .int (zI (rs ρ b : Int))), (4, .int (zI (i : Int)))] dX10_plays_100 (by decide) rfl 102 rfl ?_
              refine zg_iload hX 0 rfl dX10_plays_102 104 rfl ?_
              refine zg_aload_n hX 1 rfl dX10_plays_104 rfl 105 rfl ?_
              refine zg_iload hX 5 rfl dX10_plays_105 107 rfl ?_
              refine zg_iconst hX dX10_plays_107 108 rfl ?_
              refine zg_iadd hX dX10_plays_108 109 rfl ?_
              refine zg_callVi (As := [.int (zI ((i : Int) + 1))]) (rest := [.int (zI ((((t i : Int) + (if 0 < sh ρ b t i then 1 else 0)) + (sT (rs ρ b))) - (if i = 0 then 0 else b2 (snr ρ t (i - 1)))))]) (k0 := 0) (ci := 9) hX (c_X10_snores l D cI q f R2 ρ t ((i : Int) + 1) hρ hm2 (fun p hp => by rw [hR2.1 5 (by decide), hf1 5 (by decide)]; exact hn p hp) ht (by omega)) mw_828 mw_830 mw_s24 mw_10 mw_831 sg_X10_snores (by decide) (by decide) (Nat.le_refl _) (Nat.le_refl _) rfl rfl rfl (Nat.le_of_ble_eq_true rfl) dX10_plays_109 112 rfl ?_
              have J120 : ∀ x : Int, x = (b2 (snr ρ t (i + 1))) → G X 6 0 0 (mW cI q f R2) [(5, .int (zI ((((t i : Int) + (if 0 < sh ρ b t i then 1 else 0)) + (sT (rs ρ b))) - (if i = 0 then 0 else b2 (snr ρ t (i - 1)))))), (0, .ref (q 0)), (1, .int (zI (b : Int))), (2, .int (zI (lo ρ b t : Int))), (3, .int (zI (rs ρ b : Int))), (4, .int (zI (i : Int)))] 120 [.int (zI x), .int (zI ((((t i : Int) + (if 0 < sh ρ b t i then 1 else 0)) + (sT (rs ρ b))) - (if i = 0 then 0 else b2 (snr ρ t (i - 1)))))] := by
                intro x hx120
                subst hx120
                refine zg_isub hX dX10_plays_120 121 rfl ?_
                have e121 : (((((t i : Int) + (if 0 < sh ρ b t i then 1 else 0)) + (sT (rs ρ b))) - (if i = 0 then 0 else b2 (snr ρ t (i - 1)))) - (b2 (snr ρ t (i + 1))) : Int) = bz ρ b t i := by unfold bz; omega
                refine zg_to (lv2 := [(5, .int (zI ((((t i : Int) + (if 0 < sh ρ b t i then 1 else 0)) + (sT (rs ρ b))) - (if i = 0 then 0 else b2 (snr ρ t (i - 1)))))), (0, .ref (q 0)), (1, .int (zI (b : Int))), (2, .int (zI (lo ρ b t : Int))), (3, .int (zI (rs ρ b : Int))), (4, .int (zI (i : Int)))]) (ws2 := (mW cI q f R2)) (st2 := [.int (zI (bz ρ b t i))]) ?_ rfl rfl (by rw [e121])
                refine zg_istore hX [(5, .int (zI (bz ρ b t i))), (0, .ref (q 0)), (1, .int (zI (b : Int))), (2, .int (zI (lo ρ b t : Int))), (3, .int (zI (rs ρ b : Int))), (4, .int (zI (i : Int)))] dX10_plays_121 (by decide) rfl 123 rfl ?_
                refine zg_aload_n hX 1 rfl dX10_plays_123 rfl 124 rfl ?_
                refine mg_0_18 hX mw_659 dX10_plays_124 127 rfl ?_
                refine zg_iload hX 5 rfl dX10_plays_127 129 rfl ?_
                refine zg_iload hX 0 rfl dX10_plays_129 131 rfl ?_
                have J152 : ∀ x : Int, x = (be ρ b t i : Int) → G X 6 0 0 (mW cI q f R2) [(5, .int (zI (bz ρ b t i))), (0, .ref (q 0)), (1, .int (zI (b : Int))), (2, .int (zI (lo ρ b t : Int))), (3, .int (zI (rs ρ b : Int))), (4, .int (zI (i : Int)))] 152 [.int (zI x), .int (zI (i : Int)), .ref (q 8)] := by
                  intro x hx152
                  subst hx152
                  refine ms_8 hX i (by omega) (by omega) dX10_plays_152 153 rfl ?_
                  refine zg_iinc hX [(4, .int (zI ((i : Int) + 1))), (5, .int (zI (bz ρ b t i))), (0, .ref (q 0)), (1, .int (zI (b : Int))), (2, .int (zI (lo ρ b t : Int))), (3, .int (zI (rs ρ b : Int)))] 5 rfl dX10_plays_153 (by decide) rfl 156 rfl ?_
                  refine zg_goto hX dX10_plays_156 18 (by decide) ?_
                  exact zg_lv _ [2, 3, 4, 5, 0] rfl (ih18 (i + 1) (pu R2 7 (pu (R2 7) i (be ρ b t i : Int))) _ (by omega) (by omega) (lay_s hR2 _ rfl) (by omega))
                refine zg_if_ge hX (by omega) dX10_plays_131 138 (by decide) 134 rfl (fun h131 => ?_) (fun h131 => ?_)
                · refine zg_iload hX 0 rfl dX10_plays_138 140 rfl ?_
                  refine zg_bipush hX dX10_plays_140 142 rfl (by decide) ?_
                  refine zg_icmp_le hX (by omega) (by omega) dX10_plays_142 150 (by decide) 145 rfl (fun h142 => ?_) (fun h142 => ?_)
                  · refine zg_iload hX 0 rfl dX10_plays_150 152 rfl ?_
                    exact J152 _ (by rw [be_at (by omega)]; unfold clp; first | rw [if_pos (by omega)] | rw [if_neg (by omega), if_pos (by omega)] | rw [if_neg (by omega), if_neg (by omega)])
                  · refine zg_bipush hX dX10_plays_145 147 rfl (by decide) ?_
                    refine zg_goto hX dX10_plays_147 152 (by decide) ?_
                    exact J152 _ (by rw [be_at (by omega)]; unfold clp; first | rw [if_pos (by omega)] | rw [if_neg (by omega), if_pos (by omega)] | rw [if_neg (by omega), if_neg (by omega)])
                · refine zg_iconst hX dX10_plays_134 135 rfl ?_
                  refine zg_goto hX dX10_plays_135 152 (by decide) ?_
                  exact J152 _ (by rw [be_at (by omega)]; unfold clp; first | rw [if_pos (by omega)] | rw [if_neg (by omega), if_pos (by omega)] | rw [if_neg (by omega), if_neg (by omega)])
              refine zg_ifb_eq hX dX10_plays_112 119 (by decide) 115 rfl (fun h112 => ?_) (fun h112 => ?_)
              · refine zg_iconst hX dX10_plays_119 120 rfl ?_
                exact J120 _ (by
                  rw [show ((i : Int) + 1).toNat = i + 1 by omega] at h112; simp at h112
                  first | (rw [h112.2]; rfl) | (rw [h112 (by omega)]; rfl))
              · refine zg_iconst hX dX10_plays_115 116 rfl ?_
                refine zg_goto hX dX10_plays_116 120 (by decide) ?_
                exact J120 _ (by
                  rw [show ((i : Int) + 1).toNat = i + 1 by omega] at h112; simp at h112
                  first | (rw [h112.2]; rfl) | (rw [h112 (by omega)]; rfl))
            refine zg_ifb_eq hX dX10_plays_91 98 (by decide) 94 rfl (fun h91 => ?_) (fun h91 => ?_)
            · refine zg_iconst hX dX10_plays_98 99 rfl ?_
              exact J99 _ (by
                rw [show ((i : Int) - 1).toNat = i - 1 by omega] at h91; simp at h91
                first | (rw [if_neg (by omega), h91.2]; rfl) | (split; rfl; rw [h91 (by omega)]; rfl))
            · refine zg_iconst hX dX10_plays_94 95 rfl ?_
              refine zg_goto hX dX10_plays_95 99 (by decide) ?_
              exact J99 _ (by
                rw [show ((i : Int) - 1).toNat = i - 1 by omega] at h91; simp at h91
                first | (rw [if_neg (by omega), h91.2]; rfl) | (split; rfl; rw [h91 (by omega)]; rfl))
          refine zg_if_ne hX (by omega) dX10_plays_51 58 (by decide) 54 rfl (fun h51 => ?_) (fun h51 => ?_)
          · refine zg_iload_n hX 3 rfl dX10_plays_58 rfl 59 rfl ?_
            refine zg_iconst hX dX10_plays_59 60 rfl ?_
            refine zg_icmp_ne hX (by omega) (by omega) dX10_plays_60 67 (by decide) 63 rfl (fun h60 => ?_) (fun h60 => ?_)
            · refine zg_iload_n hX 3 rfl dX10_plays_67 rfl 68 rfl ?_
              refine zg_iconst hX dX10_plays_68 69 rfl ?_
              refine zg_icmp_ne hX (by omega) (by omega) dX10_plays_69 77 (by decide) 72 rfl (fun h69 => ?_) (fun h69 => ?_)
              · refine zg_iconst hX dX10_plays_77 78 rfl ?_
                exact J78 _ (by first | rw [show rs ρ b = 0 by omega]; rfl | rw [show rs ρ b = 1 by omega]; rfl | rw [show rs ρ b = 2 by omega]; rfl | rw [show rs ρ b = 3 by omega]; rfl)
              · refine zg_bipush hX dX10_plays_72 74 rfl (by decide) ?_
                refine zg_goto hX dX10_plays_74 78 (by decide) ?_
                exact J78 _ (by first | rw [show rs ρ b = 0 by omega]; rfl | rw [show rs ρ b = 1 by omega]; rfl | rw [show rs ρ b = 2 by omega]; rfl | rw [show rs ρ b = 3 by omega]; rfl)
            · refine zg_iconst hX dX10_plays_63 64 rfl ?_
              refine zg_goto hX dX10_plays_64 78 (by decide) ?_
              exact J78 _ (by first | rw [show rs ρ b = 0 by omega]; rfl | rw [show rs ρ b = 1 by omega]; rfl | rw [show rs ρ b = 2 by omega]; rfl | rw [show rs ρ b = 3 by omega]; rfl)
          · refine zg_iconst hX dX10_plays_54 55 rfl ?_
            refine zg_goto hX dX10_plays_55 78 (by decide) ?_
            exact J78 _ (by first | rw [show rs ρ b = 0 by omega]; rfl | rw [show rs ρ b = 1 by omega]; rfl | rw [show rs ρ b = 2 by omega]; rfl | rw [show rs ρ b = 3 by omega]; rfl)
        refine zg_if_le hX (by omega) dX10_plays_41 48 (by decide) 44 rfl (fun h41 => ?_) (fun h41 => ?_)
        · refine zg_iconst hX dX10_plays_48 49 rfl ?_
          exact J49 _ (by first | rw [if_pos (by omega)] | rw [if_neg (by omega)])
        · refine zg_iconst hX dX10_plays_44 45 rfl ?_
          refine zg_goto hX dX10_plays_45 49 (by decide) ?_
          exact J49 _ (by first | rw [if_pos (by omega)] | rw [if_neg (by omega)])
  exact zg_lv _ [3, 4, 2, 1, 0] rfl (L18 _ 0 R1 _ (Nat.lt_succ_self _) (by omega) (lay_0 _ _ _) (rfl))
-- drinks
set_option maxRecDepth 20000 in
theorem c_X10_drinks (l : Launch) (D : va_G) (cI : ClassId) (q : Nat → Nat) (f : Nat → Int) (r : Nat → Nat → Int) (ρ : Ru) (t : Nat → Nat) (p : Nat) (hρ : RuOK ρ) (hm : mR f r ρ) (hn : ∀ p, p < rn ρ → r 5 p = (t p : Int)) (ht : tk ρ t) (hp : p < rn ρ) : Cn l D cI yX10_drinks cX10_drinks 2 none 0 0 0 [.ref (q 0), .int (zI (p : Int))] (mW cI q f r) (pR (mW cI q f) (fun v r1 => v = none ∧ (∀ k, k ≠ 5 → r1 k = r k) ∧ ∀ j, j < rn ρ → r1 5 j = (rf t p j : Int))) := by
  refine Cn.of [(0, .ref (q 0)), (1, .int (zI (p : Int)))] (by decide +kernel) (Nat.le_of_ble_eq_true rfl) rfl (fun X hX hR => ?_)
  have hl9 := hρ.1
  have hn4 := hρ.2.1
  have hb6 := hρ.2.2.2.1
  have h9 := ht.1 p
  refine zg_aload_n hX 0 rfl dX10_drinks_0 rfl 1 rfl ?_
  refine mg_0_16 hX mw_657 dX10_drinks_1 4 rfl ?_
  refine zg_iload_n hX 1 rfl dX10_drinks_4 rfl 5 rfl ?_
  refine zg_aload_n hX 0 rfl dX10_drinks_5 rfl 6 rfl ?_
  refine mg_0_16 hX mw_657 dX10_drinks_6 9 rfl ?_
  refine zg_iload_n hX 1 rfl dX10_drinks_9 rfl 10 rfl ?_
  refine ma_6 hX p (t p : Int) (by omega) (by omega) (hn p hp) dX10_drinks_10 11 rfl ?_
  refine zg_iconst hX dX10_drinks_11 12 rfl ?_
  have J27 : ∀ x : Int, x = ((t p - 4 : Nat) : Int) → G X 2 0 0 (mW cI q f r) [(0, .ref (q 0)), (1, .int (zI (p : Int)))] 27 [.int (zI x), .int (zI (p : Int)), .ref (q 6)] := by
    intro x hx27
    subst hx27
    refine ms_6 hX p (by omega) (by omega) dX10_drinks_27 28 rfl ?_
    exact zg_vret hX hR (Nat.le_refl _) (Nat.le_refl _) rfl dX10_drinks_28 (⟨_, rfl, rfl, fun k hk => by rw [pu_ne _ _ hk], fun j hj => by unfold rf; rw [pu_eq, pu_at, pu_at]; split; rfl; exact hn j hj⟩)
  refine zg_icmp_ge hX (by omega) (by omega) dX10_drinks_12 19 (by decide) 15 rfl (fun h12 => ?_) (fun h12 => ?_)
  · refine zg_aload_n hX 0 rfl dX10_drinks_19 rfl 20 rfl ?_
    refine mg_0_16 hX mw_657 dX10_drinks_20 23 rfl ?_
    refine zg_iload_n hX 1 rfl dX10_drinks_23 rfl 24 rfl ?_
    refine ma_6 hX p (t p : Int) (by omega) (by omega) (hn p hp) dX10_drinks_24 25 rfl ?_
    refine zg_iconst hX dX10_drinks_25 26 rfl ?_
    refine zg_isub hX dX10_drinks_26 27 rfl ?_
    exact J27 _ (by omega)
  · refine zg_iconst hX dX10_drinks_15 16 rfl ?_
    refine zg_goto hX dX10_drinks_16 27 (by decide) ?_
    exact J27 _ (by omega)
-- lostIn
set_option maxRecDepth 20000 in
theorem c_X10_lostIn (l : Launch) (D : va_G) (cI : ClassId) (q : Nat → Nat) (f : Nat → Int) (r : Nat → Nat → Int) (ρ : Ru) (t : Nat → Nat) (b : Nat) (hρ : RuOK ρ) (hm : mR f r ρ) (hn : ∀ p, p < rn ρ → r 5 p = (t p : Int)) (ht : tk ρ t) (hb : b < rb ρ) : Cn l D cI yX10_lostIn cX10_lostIn 4 (some .int) 6 0 0 [.ref (q 0), .int (zI (b : Int))] (mW cI q f r) (pR (mW cI q f) (fun v r1 => v = some (.int (zI (ls ρ t b : Int))) ∧ (∀ k, k ≠ 5 → k ≠ 6 → k ≠ 7 → r1 k = r k) ∧ (∀ p, p < rn ρ → r1 5 p = (ru ρ t (b + 1) p : Int)))) := by
  refine Cn.of [(0, .ref (q 0)), (1, .int (zI (b : Int)))] (by decide +kernel) (Nat.le_of_ble_eq_true rfl) rfl (fun X hX hR => ?_)
  have hl9 := hρ.1
  have hn4 := hρ.2.1
  have hb6 := hρ.2.2.2.1
  refine zg_iconst hX dX10_lostIn_0 1 rfl ?_
  refine zg_istore_n hX [(2, .int (zI 0)), (0, .ref (q 0)), (1, .int (zI (b : Int)))] dX10_lostIn_1 rfl (by decide) rfl 2 rfl ?_
  refine zg_iconst hX dX10_lostIn_2 3 rfl ?_
  refine zg_istore_n hX [(3, .int (zI 0)), (2, .int (zI 0)), (0, .ref (q 0)), (1, .int (zI (b : Int)))] dX10_lostIn_3 rfl (by decide) rfl 4 rfl ?_
  have L4 : ∀ (fuel : Nat) (i : Nat) (R1 : Nat → Nat → Int) (x4_2 : Int) (x4_3 : Int), (b + 1 - i < fuel) → (i ≤ b + 1) → (∀ k, k ≠ 5 → k ≠ 6 → k ≠ 7 → R1 k = r k) → (∀ p, p < rn ρ → R1 5 p = (ru ρ t i p : Int)) → x4_2 = (if i = 0 then 0 else (ls ρ t (i - 1) : Int)) → x4_3 = (i : Int) → G X 4 0 0 (mW cI q f R1) [(0, .ref (q 0)), (1, .int (zI (b : Int))), (2, .int (zI x4_2)), (3, .int (zI x4_3))] 4 [] := by
    intro fuel
    induction fuel with
    | zero =>
      intro i R1 x4_2 x4_3 hm4
      exact absurd hm4 (Nat.not_lt_zero _)
    | succ fuel ih4 =>
      intro i R1 x4_2 x4_3 hm4 hi hR1 hn1 ex4_2 ex4_3
      subst ex4_2
      subst ex4_3
      refine zg_iload_n hX 3 rfl dX10_lostIn_4 rfl 5 rfl ?_
      refine zg_iload_n hX 1 rfl dX10_lostIn_5 rfl 6 rfl ?_
      refine zg_icmp_gt hX (by omega) (by omega) dX10_lostIn_6 21 (by decide) 9 rfl (fun h6 => ?_) (fun h6 => ?_)
      · refine zg_iload_n hX 2 rfl dX10_lostIn_21 rfl 22 rfl ?_
        exact zg_iret hX hR (Nat.le_refl _) (Nat.le_refl _) rfl dX10_lostIn_22 (⟨R1, rfl, by rw [if_neg (by omega), show i - 1 = b by omega], hR1, fun p hp => by rw [hn1 p hp, show i = b + 1 by omega]⟩)
      · refine zg_aload_n hX 0 rfl dX10_lostIn_9 rfl 10 rfl ?_
        refine zg_iload_n hX 3 rfl dX10_lostIn_10 rfl 11 rfl ?_
        refine zg_callV (As := [.int (zI (i : Int))]) (rest := []) (k0 := 0) (ci := 9) hX (c_X10_plays l D cI q f R1 ρ (ru ρ t i) i hρ (mR_r hm (hR1 2 (by decide) (by decide) (by decide)) (hR1 3 (by decide) (by decide) (by decide))) hn1 (tk_ru ht i) (by omega)) mw_805 mw_807 mw_s19 mw_10 mw_808 sg_X10_plays (by decide) (by decide) (Nat.le_refl _) (Nat.le_refl _) rfl rfl rfl (Nat.le_of_ble_eq_true rfl) dX10_lostIn_11 14 rfl (fun v11 W11 hp11 => ?_)
        obtain ⟨R11, rfl, rfl, hf11, hs11, -⟩ := hp11
        show G X 4 0 0 (mW cI q f R11) [(0, .ref (q 0)), (1, .int (zI (b : Int))), (2, .int (zI (if i = 0 then 0 else (ls ρ t (i - 1) : Int)))), (3, .int (zI (i : Int)))] 14 [.int (zI (lo ρ i (ru ρ t i) : Int))]
        refine zg_istore_n hX [(2, .int (zI (lo ρ i (ru ρ t i) : Int))), (0, .ref (q 0)), (1, .int (zI (b : Int))), (3, .int (zI (i : Int)))] dX10_lostIn_14 rfl (by decide) rfl 15 rfl ?_
        refine zg_iinc hX [(3, .int (zI ((i : Int) + 1))), (2, .int (zI (lo ρ i (ru ρ t i) : Int))), (0, .ref (q 0)), (1, .int (zI (b : Int)))] 3 rfl dX10_lostIn_15 (by decide) rfl 18 rfl ?_
        refine zg_goto hX dX10_lostIn_18 4 (by decide) ?_
        exact zg_lv _ [2, 3, 1, 0] rfl (ih4 (i + 1) R11 _ _ (by omega) (by omega) (fun k h5 h6 h7 => (hf11 k h5 h6 h7).trans (hR1 k h5 h6 h7)) (hs11) (rfl) (by omega))
  exact zg_lv _ [2, 3, 1, 0] rfl (L4 _ 0 r _ _ (Nat.lt_succ_self _) (by omega) (fun _ _ _ _ => rfl) (hn) (rfl) (rfl))
-- layNow
set_option maxRecDepth 20000 in
theorem c_X10_layNow (l : Launch) (D : va_G) (cI : ClassId) (q : Nat → Nat) (f : Nat → Int) (r : Nat → Nat → Int) (ρ : Ru) (hρ : RuOK ρ) (hm : mR f r ρ) : Cn l D cI yX10_layNow cX10_layNow 2 none 0 0 0 [.ref (q 0)] (mW cI q f r) (pR (mW cI q f) (fun v r1 => v = none ∧ (∀ k, k ≠ 3 → r1 k = r k) ∧ (∀ p, p < rn ρ → r1 3 (4 * p + 1) = r 5 p) ∧ ∀ j, j % 4 ≠ 1 → r1 3 j = r 3 j)) := by
  refine Cn.of [(0, .ref (q 0))] (by decide +kernel) (Nat.le_of_ble_eq_true rfl) rfl (fun X hX hR => ?_)
  have hl9 := hρ.1
  have hn4 := hρ.2.1
  have hb6 := hρ.2.2.2.1
  refine zg_iconst hX dX10_layNow_0 1 rfl ?_
  refine zg_istore_n hX [(1, .int (zI 0)), (0, .ref (q 0))] dX10_layNow_1 rfl (by decide) rfl 2 rfl ?_
  have L2 : ∀ (fuel : Nat) (i : Nat) (R1 : Nat → Nat → Int) (x2_1 : Int), (rn ρ - i < fuel) → (i ≤ rn ρ) → (∀ k, k ≠ 3 → R1 k = r k) → (∀ p, p < i → R1 3 (4 * p + 1) = r 5 p) → (∀ j, j % 4 ≠ 1 → R1 3 j = r 3 j) → x2_1 = (i : Int) → G X 2 0 0 (mW cI q f R1) [(0, .ref (q 0)), (1, .int (zI x2_1))] 2 [] := by
    intro fuel
    induction fuel with
    | zero =>
      intro i R1 x2_1 hm2
      exact absurd hm2 (Nat.not_lt_zero _)
    | succ fuel ih2 =>
      intro i R1 x2_1 hm2 hi hR1 hR3 hR4 ex2_1
      subst ex2_1
      refine zg_iload_n hX 1 rfl dX10_layNow_2 rfl 3 rfl ?_
      refine zg_aload_n hX 0 rfl dX10_layNow_3 rfl 4 rfl ?_
      refine mg_0_12 hX mw_653 (rn ρ : Int) hm.2.2.1 dX10_layNow_4 7 rfl ?_
      refine zg_icmp_ge hX (by omega) (by omega) dX10_layNow_7 32 (by decide) 10 rfl (fun h7 => ?_) (fun h7 => ?_)
      · exact zg_vret hX hR (Nat.le_refl _) (Nat.le_refl _) rfl dX10_layNow_32 (⟨R1, rfl, rfl, hR1, fun p hp => hR3 p (by omega), hR4⟩)
      · refine zg_aload_n hX 0 rfl dX10_layNow_10 rfl 11 rfl ?_
        refine mg_0_13 hX mw_654 dX10_layNow_11 14 rfl ?_
        refine zg_iconst hX dX10_layNow_14 15 rfl ?_
        refine zg_iload_n hX 1 rfl dX10_layNow_15 rfl 16 rfl ?_
        refine zg_imul hX dX10_layNow_16 17 rfl ?_
        refine zg_iconst hX dX10_layNow_17 18 rfl ?_
        refine zg_iadd hX dX10_layNow_18 19 rfl ?_
        refine zg_aload_n hX 0 rfl dX10_layNow_19 rfl 20 rfl ?_
        refine mg_0_16 hX mw_657 dX10_layNow_20 23 rfl ?_
        refine zg_iload_n hX 1 rfl dX10_layNow_23 rfl 24 rfl ?_
        refine ma_6 hX i (r 5 i) (by omega) (by omega) (by rw [hR1 5 (by decide)]) dX10_layNow_24 25 rfl ?_
        refine ms_4 hX (4 * i + 1) (by omega) (by omega) dX10_layNow_25 26 rfl ?_
        refine zg_iinc hX [(1, .int (zI ((i : Int) + 1))), (0, .ref (q 0))] 1 rfl dX10_layNow_26 (by decide) rfl 29 rfl ?_
        refine zg_goto hX dX10_layNow_29 2 (by decide) ?_
        exact zg_lv _ [1, 0] rfl (ih2 (i + 1) (pu R1 3 (pu (R1 3) (4 * i + 1) (r 5 i))) _ (by omega) (by omega) (fun k hk => by rw [pu_ne _ _ hk]; exact hR1 k hk) (fun p hp => by
            rw [pu_eq, pu_at]; split
            · next h => rw [show p = i by omega]
            · exact hR3 p (by omega)) (fun j hj => by rw [pu_eq, pu_ne _ _ (by omega)]; exact hR4 j hj) (by omega))
  exact zg_lv _ [1, 0] rfl (L2 _ 0 r _ (Nat.lt_succ_self _) (by omega) (fun _ _ => rfl) (fun p hp => absurd hp (Nat.not_lt_zero p)) (fun _ _ => rfl) (rfl))
-- copy
set_option maxRecDepth 20000 in
theorem c_X10_copy_1_2 (l : Launch) (D : va_G) (cI : ClassId) (q : Nat → Nat) (f : Nat → Int) (r : Nat → Nat → Int)   : Cn l D cI yX10_copy cX10_copy 3 none 0 0 0 [.ref (q 2), .ref (q 3)] (mW cI q f r) (pR (mW cI q f) (fun v r1 => v = none ∧ lay 2 12 (r 1) r r1)) := by
  refine Cn.of [(0, .ref (q 2)), (1, .ref (q 3))] (by decide +kernel) (Nat.le_of_ble_eq_true rfl) rfl (fun X hX hR => ?_)
  refine zg_iconst hX dX10_copy_0 1 rfl ?_
  refine zg_istore_n hX [(2, .int (zI 0)), (0, .ref (q 2)), (1, .ref (q 3))] dX10_copy_1 rfl (by decide) rfl 2 rfl ?_
  have L2 : ∀ (fuel : Nat) (i : Nat) (R1 : Nat → Nat → Int) (x2_2 : Int), (12 - i < fuel) → (i ≤ 12) → (lay 2 i (r 1) r R1) → x2_2 = (i : Int) → G X 3 0 0 (mW cI q f R1) [(0, .ref (q 2)), (1, .ref (q 3)), (2, .int (zI x2_2))] 2 [] := by
    intro fuel
    induction fuel with
    | zero =>
      intro i R1 x2_2 hm2
      exact absurd hm2 (Nat.not_lt_zero _)
    | succ fuel ih2 =>
      intro i R1 x2_2 hm2 hi hR1 ex2_2
      subst ex2_2
      refine zg_iload_n hX 2 rfl dX10_copy_2 rfl 3 rfl ?_
      refine zg_aload_n hX 0 rfl dX10_copy_3 rfl 4 rfl ?_
      refine ml_2 hX dX10_copy_4 5 rfl ?_
      refine zg_icmp_ge hX (by omega) (by omega) dX10_copy_5 20 (by decide) 8 rfl (fun h5 => ?_) (fun h5 => ?_)
      · exact zg_vret hX hR (Nat.le_refl _) (Nat.le_refl _) rfl dX10_copy_20 (⟨R1, rfl, rfl, lay_to hR1 _ (by omega)⟩)
      · refine zg_aload_n hX 1 rfl dX10_copy_8 rfl 9 rfl ?_
        refine zg_iload_n hX 2 rfl dX10_copy_9 rfl 10 rfl ?_
        refine zg_aload_n hX 0 rfl dX10_copy_10 rfl 11 rfl ?_
        refine zg_iload_n hX 2 rfl dX10_copy_11 rfl 12 rfl ?_
        refine ma_2 hX i (r 1 i) (by omega) (by omega) (by rw [hR1.1 1 (by decide)]) dX10_copy_12 13 rfl ?_
        refine ms_3 hX i (by omega) (by omega) dX10_copy_13 14 rfl ?_
        refine zg_iinc hX [(2, .int (zI ((i : Int) + 1))), (0, .ref (q 2)), (1, .ref (q 3))] 2 rfl dX10_copy_14 (by decide) rfl 17 rfl ?_
        refine zg_goto hX dX10_copy_17 2 (by decide) ?_
        exact zg_lv _ [1, 2, 0] rfl (ih2 (i + 1) (pu R1 2 (pu (R1 2) i (r 1 i))) _ (by omega) (by omega) (lay_s hR1 _ rfl) (by omega))
  exact zg_lv _ [1, 2, 0] rfl (L2 _ 0 r _ (Nat.lt_succ_self _) (by omega) (lay_0 _ _ _) (rfl))
-- copy
set_option maxRecDepth 20000 in
theorem c_X10_copy_8_9 (l : Launch) (D : va_G) (cI : ClassId) (q : Nat → Nat) (f : Nat → Int) (r : Nat → Nat → Int)   : Cn l D cI yX10_copy cX10_copy 3 none 0 0 0 [.ref (q 9), .ref (q 10)] (mW cI q f r) (pR (mW cI q f) (fun v r1 => v = none ∧ lay 9 6 (r 8) r r1)) := by
  refine Cn.of [(0, .ref (q 9)), (1, .ref (q 10))] (by decide +kernel) (Nat.le_of_ble_eq_true rfl) rfl (fun X hX hR => ?_)
  refine zg_iconst hX dX10_copy_0 1 rfl ?_
  refine zg_istore_n hX [(2, .int (zI 0)), (0, .ref (q 9)), (1, .ref (q 10))] dX10_copy_1 rfl (by decide) rfl 2 rfl ?_
  have L2 : ∀ (fuel : Nat) (i : Nat) (R1 : Nat → Nat → Int) (x2_2 : Int), (6 - i < fuel) → (i ≤ 6) → (lay 9 i (r 8) r R1) → x2_2 = (i : Int) → G X 3 0 0 (mW cI q f R1) [(0, .ref (q 9)), (1, .ref (q 10)), (2, .int (zI x2_2))] 2 [] := by
    intro fuel
    induction fuel with
    | zero =>
      intro i R1 x2_2 hm2
      exact absurd hm2 (Nat.not_lt_zero _)
    | succ fuel ih2 =>
      intro i R1 x2_2 hm2 hi hR1 ex2_2
      subst ex2_2
      refine zg_iload_n hX 2 rfl dX10_copy_2 rfl 3 rfl ?_
      refine zg_aload_n hX 0 rfl dX10_copy_3 rfl 4 rfl ?_
      refine ml_9 hX dX10_copy_4 5 rfl ?_
      refine zg_icmp_ge hX (by omega) (by omega) dX10_copy_5 20 (by decide) 8 rfl (fun h5 => ?_) (fun h5 => ?_)
      · exact zg_vret hX hR (Nat.le_refl _) (Nat.le_refl _) rfl dX10_copy_20 (⟨R1, rfl, rfl, lay_to hR1 _ (by omega)⟩)
      · refine zg_aload_n hX 1 rfl dX10_copy_8 rfl 9 rfl ?_
        refine zg_iload_n hX 2 rfl dX10_copy_9 rfl 10 rfl ?_
        refine zg_aload_n hX 0 rfl dX10_copy_10 rfl 11 rfl ?_
        refine zg_iload_n hX 2 rfl dX10_copy_11 rfl 12 rfl ?_
        refine ma_9 hX i (r 8 i) (by omega) (by omega) (by rw [hR1.1 8 (by decide)]) dX10_copy_12 13 rfl ?_
        refine ms_10 hX i (by omega) (by omega) dX10_copy_13 14 rfl ?_
        refine zg_iinc hX [(2, .int (zI ((i : Int) + 1))), (0, .ref (q 9)), (1, .ref (q 10))] 2 rfl dX10_copy_14 (by decide) rfl 17 rfl ?_
        refine zg_goto hX dX10_copy_17 2 (by decide) ?_
        exact zg_lv _ [1, 2, 0] rfl (ih2 (i + 1) (pu R1 9 (pu (R1 9) i (r 8 i))) _ (by omega) (by omega) (lay_s hR1 _ rfl) (by omega))
  exact zg_lv _ [1, 2, 0] rfl (L2 _ 0 r _ (Nat.lt_succ_self _) (by omega) (lay_0 _ _ _) (rfl))
-- copy
set_option maxRecDepth 20000 in
theorem c_X10_copy_3_11 (l : Launch) (D : va_G) (cI : ClassId) (q : Nat → Nat) (f : Nat → Int) (r : Nat → Nat → Int)   : Cn l D cI yX10_copy cX10_copy 3 none 0 0 0 [.ref (q 4), .ref (q 12)] (mW cI q f r) (pR (mW cI q f) (fun v r1 => v = none ∧ lay 11 16 (r 3) r r1)) := by
  refine Cn.of [(0, .ref (q 4)), (1, .ref (q 12))] (by decide +kernel) (Nat.le_of_ble_eq_true rfl) rfl (fun X hX hR => ?_)
  refine zg_iconst hX dX10_copy_0 1 rfl ?_
  refine zg_istore_n hX [(2, .int (zI 0)), (0, .ref (q 4)), (1, .ref (q 12))] dX10_copy_1 rfl (by decide) rfl 2 rfl ?_
  have L2 : ∀ (fuel : Nat) (i : Nat) (R1 : Nat → Nat → Int) (x2_2 : Int), (16 - i < fuel) → (i ≤ 16) → (lay 11 i (r 3) r R1) → x2_2 = (i : Int) → G X 3 0 0 (mW cI q f R1) [(0, .ref (q 4)), (1, .ref (q 12)), (2, .int (zI x2_2))] 2 [] := by
    intro fuel
    induction fuel with
    | zero =>
      intro i R1 x2_2 hm2
      exact absurd hm2 (Nat.not_lt_zero _)
    | succ fuel ih2 =>
      intro i R1 x2_2 hm2 hi hR1 ex2_2
      subst ex2_2
      refine zg_iload_n hX 2 rfl dX10_copy_2 rfl 3 rfl ?_
      refine zg_aload_n hX 0 rfl dX10_copy_3 rfl 4 rfl ?_
      refine ml_4 hX dX10_copy_4 5 rfl ?_
      refine zg_icmp_ge hX (by omega) (by omega) dX10_copy_5 20 (by decide) 8 rfl (fun h5 => ?_) (fun h5 => ?_)
      · exact zg_vret hX hR (Nat.le_refl _) (Nat.le_refl _) rfl dX10_copy_20 (⟨R1, rfl, rfl, lay_to hR1 _ (by omega)⟩)
      · refine zg_aload_n hX 1 rfl dX10_copy_8 rfl 9 rfl ?_
        refine zg_iload_n hX 2 rfl dX10_copy_9 rfl 10 rfl ?_
        refine zg_aload_n hX 0 rfl dX10_copy_10 rfl 11 rfl ?_
        refine zg_iload_n hX 2 rfl dX10_copy_11 rfl 12 rfl ?_
        refine ma_4 hX i (r 3 i) (by omega) (by omega) (by rw [hR1.1 3 (by decide)]) dX10_copy_12 13 rfl ?_
        refine ms_12 hX i (by omega) (by omega) dX10_copy_13 14 rfl ?_
        refine zg_iinc hX [(2, .int (zI ((i : Int) + 1))), (0, .ref (q 4)), (1, .ref (q 12))] 2 rfl dX10_copy_14 (by decide) rfl 17 rfl ?_
        refine zg_goto hX dX10_copy_17 2 (by decide) ?_
        exact zg_lv _ [1, 2, 0] rfl (ih2 (i + 1) (pu R1 11 (pu (R1 11) i (r 3 i))) _ (by omega) (by omega) (lay_s hR1 _ rfl) (by omega))
  exact zg_lv _ [1, 2, 0] rfl (L2 _ 0 r _ (Nat.lt_succ_self _) (by omega) (lay_0 _ _ _) (rfl))
-- copy
set_option maxRecDepth 20000 in
theorem c_X10_copy_4_12 (l : Launch) (D : va_G) (cI : ClassId) (q : Nat → Nat) (f : Nat → Int) (r : Nat → Nat → Int)   : Cn l D cI yX10_copy cX10_copy 3 none 0 0 0 [.ref (q 5), .ref (q 13)] (mW cI q f r) (pR (mW cI q f) (fun v r1 => v = none ∧ lay 12 12 (r 4) r r1)) := by
  refine Cn.of [(0, .ref (q 5)), (1, .ref (q 13))] (by decide +kernel) (Nat.le_of_ble_eq_true rfl) rfl (fun X hX hR => ?_)
  refine zg_iconst hX dX10_copy_0 1 rfl ?_
  refine zg_istore_n hX [(2, .int (zI 0)), (0, .ref (q 5)), (1, .ref (q 13))] dX10_copy_1 rfl (by decide) rfl 2 rfl ?_
  have L2 : ∀ (fuel : Nat) (i : Nat) (R1 : Nat → Nat → Int) (x2_2 : Int), (12 - i < fuel) → (i ≤ 12) → (lay 12 i (r 4) r R1) → x2_2 = (i : Int) → G X 3 0 0 (mW cI q f R1) [(0, .ref (q 5)), (1, .ref (q 13)), (2, .int (zI x2_2))] 2 [] := by
    intro fuel
    induction fuel with
    | zero =>
      intro i R1 x2_2 hm2
      exact absurd hm2 (Nat.not_lt_zero _)
    | succ fuel ih2 =>
      intro i R1 x2_2 hm2 hi hR1 ex2_2
      subst ex2_2
      refine zg_iload_n hX 2 rfl dX10_copy_2 rfl 3 rfl ?_
      refine zg_aload_n hX 0 rfl dX10_copy_3 rfl 4 rfl ?_
      refine ml_5 hX dX10_copy_4 5 rfl ?_
      refine zg_icmp_ge hX (by omega) (by omega) dX10_copy_5 20 (by decide) 8 rfl (fun h5 => ?_) (fun h5 => ?_)
      · exact zg_vret hX hR (Nat.le_refl _) (Nat.le_refl _) rfl dX10_copy_20 (⟨R1, rfl, rfl, lay_to hR1 _ (by omega)⟩)
      · refine zg_aload_n hX 1 rfl dX10_copy_8 rfl 9 rfl ?_
        refine zg_iload_n hX 2 rfl dX10_copy_9 rfl 10 rfl ?_
        refine zg_aload_n hX 0 rfl dX10_copy_10 rfl 11 rfl ?_
        refine zg_iload_n hX 2 rfl dX10_copy_11 rfl 12 rfl ?_
        refine ma_5 hX i (r 4 i) (by omega) (by omega) (by rw [hR1.1 4 (by decide)]) dX10_copy_12 13 rfl ?_
        refine ms_13 hX i (by omega) (by omega) dX10_copy_13 14 rfl ?_
        refine zg_iinc hX [(2, .int (zI ((i : Int) + 1))), (0, .ref (q 5)), (1, .ref (q 13))] 2 rfl dX10_copy_14 (by decide) rfl 17 rfl ?_
        refine zg_goto hX dX10_copy_17 2 (by decide) ?_
        exact zg_lv _ [1, 2, 0] rfl (ih2 (i + 1) (pu R1 12 (pu (R1 12) i (r 4 i))) _ (by omega) (by omega) (lay_s hR1 _ rfl) (by omega))
  exact zg_lv _ [1, 2, 0] rfl (L2 _ 0 r _ (Nat.lt_succ_self _) (by omega) (lay_0 _ _ _) (rfl))
-- copy
set_option maxRecDepth 20000 in
theorem c_X10_copy_11_3 (l : Launch) (D : va_G) (cI : ClassId) (q : Nat → Nat) (f : Nat → Int) (r : Nat → Nat → Int)   : Cn l D cI yX10_copy cX10_copy 3 none 0 0 0 [.ref (q 12), .ref (q 4)] (mW cI q f r) (pR (mW cI q f) (fun v r1 => v = none ∧ lay 3 16 (r 11) r r1)) := by
  refine Cn.of [(0, .ref (q 12)), (1, .ref (q 4))] (by decide +kernel) (Nat.le_of_ble_eq_true rfl) rfl (fun X hX hR => ?_)
  refine zg_iconst hX dX10_copy_0 1 rfl ?_
  refine zg_istore_n hX [(2, .int (zI 0)), (0, .ref (q 12)), (1, .ref (q 4))] dX10_copy_1 rfl (by decide) rfl 2 rfl ?_
  have L2 : ∀ (fuel : Nat) (i : Nat) (R1 : Nat → Nat → Int) (x2_2 : Int), (16 - i < fuel) → (i ≤ 16) → (lay 3 i (r 11) r R1) → x2_2 = (i : Int) → G X 3 0 0 (mW cI q f R1) [(0, .ref (q 12)), (1, .ref (q 4)), (2, .int (zI x2_2))] 2 [] := by
    intro fuel
    induction fuel with
    | zero =>
      intro i R1 x2_2 hm2
      exact absurd hm2 (Nat.not_lt_zero _)
    | succ fuel ih2 =>
      intro i R1 x2_2 hm2 hi hR1 ex2_2
      subst ex2_2
      refine zg_iload_n hX 2 rfl dX10_copy_2 rfl 3 rfl ?_
      refine zg_aload_n hX 0 rfl dX10_copy_3 rfl 4 rfl ?_
      refine ml_12 hX dX10_copy_4 5 rfl ?_
      refine zg_icmp_ge hX (by omega) (by omega) dX10_copy_5 20 (by decide) 8 rfl (fun h5 => ?_) (fun h5 => ?_)
      · exact zg_vret hX hR (Nat.le_refl _) (Nat.le_refl _) rfl dX10_copy_20 (⟨R1, rfl, rfl, lay_to hR1 _ (by omega)⟩)
      · refine zg_aload_n hX 1 rfl dX10_copy_8 rfl 9 rfl ?_
        refine zg_iload_n hX 2 rfl dX10_copy_9 rfl 10 rfl ?_
        refine zg_aload_n hX 0 rfl dX10_copy_10 rfl 11 rfl ?_
        refine zg_iload_n hX 2 rfl dX10_copy_11 rfl 12 rfl ?_
        refine ma_12 hX i (r 11 i) (by omega) (by omega) (by rw [hR1.1 11 (by decide)]) dX10_copy_12 13 rfl ?_
        refine ms_4 hX i (by omega) (by omega) dX10_copy_13 14 rfl ?_
        refine zg_iinc hX [(2, .int (zI ((i : Int) + 1))), (0, .ref (q 12)), (1, .ref (q 4))] 2 rfl dX10_copy_14 (by decide) rfl 17 rfl ?_
        refine zg_goto hX dX10_copy_17 2 (by decide) ?_
        exact zg_lv _ [1, 2, 0] rfl (ih2 (i + 1) (pu R1 3 (pu (R1 3) i (r 11 i))) _ (by omega) (by omega) (lay_s hR1 _ rfl) (by omega))
  exact zg_lv _ [1, 2, 0] rfl (L2 _ 0 r _ (Nat.lt_succ_self _) (by omega) (lay_0 _ _ _) (rfl))
-- copy
set_option maxRecDepth 20000 in
theorem c_X10_copy_12_4 (l : Launch) (D : va_G) (cI : ClassId) (q : Nat → Nat) (f : Nat → Int) (r : Nat → Nat → Int)   : Cn l D cI yX10_copy cX10_copy 3 none 0 0 0 [.ref (q 13), .ref (q 5)] (mW cI q f r) (pR (mW cI q f) (fun v r1 => v = none ∧ lay 4 12 (r 12) r r1)) := by
  refine Cn.of [(0, .ref (q 13)), (1, .ref (q 5))] (by decide +kernel) (Nat.le_of_ble_eq_true rfl) rfl (fun X hX hR => ?_)
  refine zg_iconst hX dX10_copy_0 1 rfl ?_
  refine zg_istore_n hX [(2, .int (zI 0)), (0, .ref (q 13)), (1, .ref (q 5))] dX10_copy_1 rfl (by decide) rfl 2 rfl ?_
  have L2 : ∀ (fuel : Nat) (i : Nat) (R1 : Nat → Nat → Int) (x2_2 : Int), (12 - i < fuel) → (i ≤ 12) → (lay 4 i (r 12) r R1) → x2_2 = (i : Int) → G X 3 0 0 (mW cI q f R1) [(0, .ref (q 13)), (1, .ref (q 5)), (2, .int (zI x2_2))] 2 [] := by
    intro fuel
    induction fuel with
    | zero =>
      intro i R1 x2_2 hm2
      exact absurd hm2 (Nat.not_lt_zero _)
    | succ fuel ih2 =>
      intro i R1 x2_2 hm2 hi hR1 ex2_2
      subst ex2_2
      refine zg_iload_n hX 2 rfl dX10_copy_2 rfl 3 rfl ?_
      refine zg_aload_n hX 0 rfl dX10_copy_3 rfl 4 rfl ?_
      refine ml_13 hX dX10_copy_4 5 rfl ?_
      refine zg_icmp_ge hX (by omega) (by omega) dX10_copy_5 20 (by decide) 8 rfl (fun h5 => ?_) (fun h5 => ?_)
      · exact zg_vret hX hR (Nat.le_refl _) (Nat.le_refl _) rfl dX10_copy_20 (⟨R1, rfl, rfl, lay_to hR1 _ (by omega)⟩)
      · refine zg_aload_n hX 1 rfl dX10_copy_8 rfl 9 rfl ?_
        refine zg_iload_n hX 2 rfl dX10_copy_9 rfl 10 rfl ?_
        refine zg_aload_n hX 0 rfl dX10_copy_10 rfl 11 rfl ?_
        refine zg_iload_n hX 2 rfl dX10_copy_11 rfl 12 rfl ?_
        refine ma_13 hX i (r 12 i) (by omega) (by omega) (by rw [hR1.1 12 (by decide)]) dX10_copy_12 13 rfl ?_
        refine ms_5 hX i (by omega) (by omega) dX10_copy_13 14 rfl ?_
        refine zg_iinc hX [(2, .int (zI ((i : Int) + 1))), (0, .ref (q 13)), (1, .ref (q 5))] 2 rfl dX10_copy_14 (by decide) rfl 17 rfl ?_
        refine zg_goto hX dX10_copy_17 2 (by decide) ?_
        exact zg_lv _ [1, 2, 0] rfl (ih2 (i + 1) (pu R1 4 (pu (R1 4) i (r 12 i))) _ (by omega) (by omega) (lay_s hR1 _ rfl) (by omega))
  exact zg_lv _ [1, 2, 0] rfl (L2 _ 0 r _ (Nat.lt_succ_self _) (by omega) (lay_0 _ _ _) (rfl))
