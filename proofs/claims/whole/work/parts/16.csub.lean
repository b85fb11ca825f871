def pF (W0 : (Nat → Int) → va_W) (P : Option Value → (Nat → Int) → Prop) : Option Value → va_W → Prop := fun v W1 => ∃ f1, W1 = W0 f1 ∧ P v f1
theorem bb_le (w : Nat → Nat) (h : ∀ b, w b ≤ 10) (k : Nat) : (bb w k).2 ≤ 11 := by
  induction k with
  | zero => simp [bb]
  | succ k ih => simp only [bb]; split
                 · have := h k; show w k ≤ 11; omega
                 · exact ih
theorem cR_f {f f1 : Nat → Int} {r : Nat → Nat → Int} {ρ : Ru} (h : cR f r ρ) (hF : ∀ j, j ≠ 20 → j ≠ 21 → j ≠ 22 → f1 j = f j) : cR f1 r ρ := by
  unfold cR at *
  rw [hF 1 (by decide) (by decide) (by decide), hF 2 (by decide) (by decide) (by decide), hF 4 (by decide) (by decide) (by decide), hF 6 (by decide) (by decide) (by decide), hF 7 (by decide) (by decide) (by decide)]
  exact h
theorem drB_lt {ρ : Ru} {t : Nat → Nat} {z : Nat × Nat × Nat} (h : z.1 < 2147483648) (b : Nat) : (drB ρ t z b).1 < 2147483648 := by
  cases b with
  | zero => exact h
  | succ b => exact sdn_lt _
theorem sg_X9_refreshed : yX9_refreshed.cls = RX9 ∧ yX9_refreshed.cls ≠ "java/lang/invoke/MethodHandle" ∧ yX9_refreshed.cls ≠ "java/lang/invoke/VarHandle" ∧ (parseMethodDescriptor yX9_refreshed.desc).map (fun d => d.parameters.length) = some 2 := by decide +kernel
theorem sg_X9_isKind : yX9_isKind.cls = RX9 ∧ yX9_isKind.cls ≠ "java/lang/invoke/MethodHandle" ∧ yX9_isKind.cls ≠ "java/lang/invoke/VarHandle" ∧ (parseMethodDescriptor yX9_isKind.desc).map (fun d => d.parameters.length) = some 1 := by decide +kernel
theorem sg_X9_isTiredness : yX9_isTiredness.cls = RX9 ∧ yX9_isTiredness.cls ≠ "java/lang/invoke/MethodHandle" ∧ yX9_isTiredness.cls ≠ "java/lang/invoke/VarHandle" ∧ (parseMethodDescriptor yX9_isTiredness.desc).map (fun d => d.parameters.length) = some 1 := by decide +kernel
theorem sg_X9_isSuch : yX9_isSuch.cls = RX9 ∧ yX9_isSuch.cls ≠ "java/lang/invoke/MethodHandle" ∧ yX9_isSuch.cls ≠ "java/lang/invoke/VarHandle" ∧ (parseMethodDescriptor yX9_isSuch.desc).map (fun d => d.parameters.length) = some 2 := by decide +kernel
theorem sg_X9_isOfRow : yX9_isOfRow.cls = RX9 ∧ yX9_isOfRow.cls ≠ "java/lang/invoke/MethodHandle" ∧ yX9_isOfRow.cls ≠ "java/lang/invoke/VarHandle" ∧ (parseMethodDescriptor yX9_isOfRow.desc).map (fun d => d.parameters.length) = some 1 := by decide +kernel
theorem sg_X9_ofHearing : yX9_ofHearing.cls = RX9 ∧ yX9_ofHearing.cls ≠ "java/lang/invoke/MethodHandle" ∧ yX9_ofHearing.cls ≠ "java/lang/invoke/VarHandle" ∧ (parseMethodDescriptor yX9_ofHearing.desc).map (fun d => d.parameters.length) = some 2 := by decide +kernel
theorem sg_J6_bitCount_0f7a4 : yJ6_bitCount_0f7a4.cls = RJ6 ∧ yJ6_bitCount_0f7a4.cls ≠ "java/lang/invoke/MethodHandle" ∧ yJ6_bitCount_0f7a4.cls ≠ "java/lang/invoke/VarHandle" ∧ (parseMethodDescriptor yJ6_bitCount_0f7a4.desc).map (fun d => d.parameters.length) = some 1 := by decide +kernel
theorem sg_X4_mostLeftBy : yX4_mostLeftBy.cls = RX4 ∧ yX4_mostLeftBy.cls ≠ "java/lang/invoke/MethodHandle" ∧ yX4_mostLeftBy.cls ≠ "java/lang/invoke/VarHandle" ∧ (parseMethodDescriptor yX4_mostLeftBy.desc).map (fun d => d.parameters.length) = some 1 := by decide +kernel
theorem sg_X4_bestBar : yX4_bestBar.cls = RX4 ∧ yX4_bestBar.cls ≠ "java/lang/invoke/MethodHandle" ∧ yX4_bestBar.cls ≠ "java/lang/invoke/VarHandle" ∧ (parseMethodDescriptor yX4_bestBar.desc).map (fun d => d.parameters.length) = some 0 := by decide +kernel
theorem sg_X4_study : yX4_study.cls = RX4 ∧ yX4_study.cls ≠ "java/lang/invoke/MethodHandle" ∧ yX4_study.cls ≠ "java/lang/invoke/VarHandle" ∧ (parseMethodDescriptor yX4_study.desc).map (fun d => d.parameters.length) = some 1 := by decide +kernel
theorem sg_X1_draw : yX1_draw.cls = RX1 ∧ yX1_draw.cls ≠ "java/lang/invoke/MethodHandle" ∧ yX1_draw.cls ≠ "java/lang/invoke/VarHandle" ∧ (parseMethodDescriptor yX1_draw.desc).map (fun d => d.parameters.length) = some 1 := by decide +kernel
theorem sg_X1_blowOnce : yX1_blowOnce.cls = RX1 ∧ yX1_blowOnce.cls ≠ "java/lang/invoke/MethodHandle" ∧ yX1_blowOnce.cls ≠ "java/lang/invoke/VarHandle" ∧ (parseMethodDescriptor yX1_blowOnce.desc).map (fun d => d.parameters.length) = some 0 := by decide +kernel
theorem sg_X1_blow : yX1_blow.cls = RX1 ∧ yX1_blow.cls ≠ "java/lang/invoke/MethodHandle" ∧ yX1_blow.cls ≠ "java/lang/invoke/VarHandle" ∧ (parseMethodDescriptor yX1_blow.desc).map (fun d => d.parameters.length) = some 2 := by decide +kernel
-- refreshed
set_option maxRecDepth 20000 in
theorem c_X9_refreshed (l : Launch) (D : va_G) (cI : ClassId) (W0 : va_W) (t : Nat → Nat) (p : Nat) (h16 : ∀ p, t p < 16) (hp : p < 6) : Cn l D cI yX9_refreshed cX9_refreshed 3 (some .int) 1 0 0 [.int (zI (n6 t)), .int (zI (p : Int))] W0 (pI (n6 (rf t p)) W0) := by
  refine Cn.of [(0, .int (zI (n6 t))), (1, .int (zI (p : Int)))] (by decide +kernel) (Nat.le_of_ble_eq_true rfl) rfl (fun X hX hR => ?_)
  have hp16 := h16 p
  refine zg_iconst hX dX9_refreshed_0 1 rfl ?_
  refine zg_iload_n hX 0 rfl dX9_refreshed_1 rfl 2 rfl ?_
  refine zg_iload_n hX 1 rfl dX9_refreshed_2 rfl 3 rfl ?_
  refine zg_callSi (As := [.int (zI (n6 t)), .int (zI (p : Int))]) (rest := [.int (zI 0)]) hX (c_X5_get l D cI _ t p h16 (by omega)) mw_393 mw_363 mw_12 mw_364 sg_X5_get.2 (by decide) (by decide) (Nat.le_refl _) (Nat.le_refl _) rfl (Nat.le_of_ble_eq_true rfl) dX9_refreshed_3 6 rfl ?_
  refine zg_iconst hX dX9_refreshed_6 7 rfl ?_
  refine zg_isub hX dX9_refreshed_7 8 rfl ?_
  refine zg_mmax hX (by omega) (by omega) mw_446 mw_336 mw_11 mw_337 (by omega) (Nat.le_refl _) (Nat.le_refl _) (Nat.le_of_ble_eq_true rfl) dX9_refreshed_8 11 rfl ?_
  have e11 : (if 0 < ((t p : Int) - 4) then ((t p : Int) - 4) else 0 : Int) = ((t p - 4 : Nat) : Int) := by split <;> omega
  refine zg_to (lv2 := [(0, .int (zI (n6 t))), (1, .int (zI (p : Int)))]) (ws2 := W0) (st2 := [.int (zI ((t p - 4 : Nat) : Int))]) ?_ rfl rfl (by rw [e11])
  refine zg_istore_n hX [(2, .int (zI ((t p - 4 : Nat) : Int))), (0, .int (zI (n6 t))), (1, .int (zI (p : Int)))] dX9_refreshed_11 rfl (by decide) rfl 12 rfl ?_
  refine zg_iload_n hX 1 rfl dX9_refreshed_12 rfl 13 rfl ?_
  refine zg_iload_n hX 2 rfl dX9_refreshed_13 rfl 14 rfl ?_
  refine zg_iload_n hX 0 rfl dX9_refreshed_14 rfl 15 rfl ?_
  refine zg_callSi (As := [.int (zI (n6 t)), .int (zI (p : Int)), .int (zI ((t p - 4 : Nat) : Int))]) (rest := []) hX (c_X5_with l D cI _ t p (t p - 4) h16 (by omega) (by omega)) mw_447 mw_376 mw_12 mw_377 sg_X5_with.2 (by decide) (by decide) (Nat.le_refl _) (Nat.le_refl _) rfl (Nat.le_of_ble_eq_true rfl) dX9_refreshed_15 18 rfl ?_
  exact zg_iret hX hR (Nat.le_refl _) (Nat.le_refl _) rfl dX9_refreshed_18 (pI_of rfl)
-- X9_isKind
set_option maxRecDepth 20000 in
theorem c_X9_isKind (l : Launch) (D : va_G) (cI : ClassId) (W0 : va_W) (a : Int) (ha : -2147483648 ≤ a ∧ a < 2147483648) : Cn l D cI yX9_isKind cX9_isKind 1 (some .boolean) 0 0 0 [.int (zI a)] W0 (pI (b2 (decide (0 ≤ a ∧ a ≤ 4))) W0) := by
  refine Cn.of [(0, .int (zI a))] (by decide +kernel) (Nat.le_of_ble_eq_true rfl) rfl (fun X hX hR => ?_)
  refine zg_iload_n hX 0 rfl dX9_isKind_0 rfl 1 rfl ?_
  refine zg_if_lt hX (by omega) dX9_isKind_1 13 (by decide) 4 rfl (fun h1 => ?_) (fun h1 => ?_)
  · have hres : decide (0 ≤ a ∧ a ≤ 4) = false := decide_eq_false (by omega)
    refine zg_iconst hX dX9_isKind_13 14 rfl ?_
    exact zg_zret hX hR (Nat.le_refl _) (Nat.le_refl _) (by decide) rfl dX9_isKind_14 (by first | exact pB_t hres | exact pB_f hres)
  · refine zg_iload_n hX 0 rfl dX9_isKind_4 rfl 5 rfl ?_
    refine zg_iconst hX dX9_isKind_5 6 rfl ?_
    refine zg_icmp_ge hX (by omega) (by omega) dX9_isKind_6 13 (by decide) 9 rfl (fun h6 => ?_) (fun h6 => ?_)
    · have hres : decide (0 ≤ a ∧ a ≤ 4) = false := decide_eq_false (by omega)
      refine zg_iconst hX dX9_isKind_13 14 rfl ?_
      exact zg_zret hX hR (Nat.le_refl _) (Nat.le_refl _) (by decide) rfl dX9_isKind_14 (by first | exact pB_t hres | exact pB_f hres)
    · have hres : decide (0 ≤ a ∧ a ≤ 4) = true := decide_eq_true (by omega)
      refine zg_iconst hX dX9_isKind_9 10 rfl ?_
      refine zg_goto hX dX9_isKind_10 14 (by decide) ?_
      exact zg_zret hX hR (Nat.le_refl _) (Nat.le_refl _) (by decide) rfl dX9_isKind_14 (by first | exact pB_t hres | exact pB_f hres)
-- X9_isTiredness
set_option maxRecDepth 20000 in
theorem c_X9_isTiredness (l : Launch) (D : va_G) (cI : ClassId) (W0 : va_W) (a : Int) (ha : -2147483648 ≤ a ∧ a < 2147483648) : Cn l D cI yX9_isTiredness cX9_isTiredness 1 (some .boolean) 0 0 0 [.int (zI a)] W0 (pI (b2 (decide (0 ≤ a ∧ a ≤ 9))) W0) := by
  refine Cn.of [(0, .int (zI a))] (by decide +kernel) (Nat.le_of_ble_eq_true rfl) rfl (fun X hX hR => ?_)
  refine zg_iload_n hX 0 rfl dX9_isTiredness_0 rfl 1 rfl ?_
  refine zg_if_lt hX (by omega) dX9_isTiredness_1 14 (by decide) 4 rfl (fun h1 => ?_) (fun h1 => ?_)
  · have hres : decide (0 ≤ a ∧ a ≤ 9) = false := decide_eq_false (by omega)
    refine zg_iconst hX dX9_isTiredness_14 15 rfl ?_
    exact zg_zret hX hR (Nat.le_refl _) (Nat.le_refl _) (by decide) rfl dX9_isTiredness_15 (by first | exact pB_t hres | exact pB_f hres)
  · refine zg_iload_n hX 0 rfl dX9_isTiredness_4 rfl 5 rfl ?_
    refine zg_bipush hX dX9_isTiredness_5 7 rfl (by decide) ?_
    refine zg_icmp_gt hX (by omega) (by omega) dX9_isTiredness_7 14 (by decide) 10 rfl (fun h7 => ?_) (fun h7 => ?_)
    · have hres : decide (0 ≤ a ∧ a ≤ 9) = false := decide_eq_false (by omega)
      refine zg_iconst hX dX9_isTiredness_14 15 rfl ?_
      exact zg_zret hX hR (Nat.le_refl _) (Nat.le_refl _) (by decide) rfl dX9_isTiredness_15 (by first | exact pB_t hres | exact pB_f hres)
    · have hres : decide (0 ≤ a ∧ a ≤ 9) = true := decide_eq_true (by omega)
      refine zg_iconst hX dX9_isTiredness_10 11 rfl ?_
      refine zg_goto hX dX9_isTiredness_11 15 (by decide) ?_
      exact zg_zret hX hR (Nat.le_refl _) (Nat.le_refl _) (by decide) rfl dX9_isTiredness_15 (by first | exact pB_t hres | exact pB_f hres)
-- X9_isSuch
set_option maxRecDepth 20000 in
theorem c_X9_isSuch (l : Launch) (D : va_G) (cI : ClassId) (W0 : va_W) (k : Nat) (a : Int) (hk : k ≤ 4) (ha : 0 ≤ a ∧ a ≤ 4) : Cn l D cI yX9_isSuch cX9_isSuch 2 (some .boolean) 0 0 0 [.int (zI (k : Int)), .int (zI a)] W0 (pI (b2 (decide (a = 0 ∨ a = (k : Int) ∨ (a = 1 ∧ k = 4)))) W0) := by
  refine Cn.of [(0, .int (zI (k : Int))), (1, .int (zI a))] (by decide +kernel) (Nat.le_of_ble_eq_true rfl) rfl (fun X hX hR => ?_)
  refine zg_iload_n hX 1 rfl dX9_isSuch_0 rfl 1 rfl ?_
  refine zg_if_eq hX (by omega) dX9_isSuch_1 19 (by decide) 4 rfl (fun h1 => ?_) (fun h1 => ?_)
  · have hres : decide (a = 0 ∨ a = (k : Int) ∨ (a = 1 ∧ k = 4)) = true := decide_eq_true (by omega)
    refine zg_iconst hX dX9_isSuch_19 20 rfl ?_
    refine zg_goto hX dX9_isSuch_20 24 (by decide) ?_
    exact zg_zret hX hR (Nat.le_refl _) (Nat.le_refl _) (by decide) rfl dX9_isSuch_24 (by first | exact pB_t hres | exact pB_f hres)
  · refine zg_iload_n hX 1 rfl dX9_isSuch_4 rfl 5 rfl ?_
    refine zg_iload_n hX 0 rfl dX9_isSuch_5 rfl 6 rfl ?_
    refine zg_icmp_eq hX (by omega) (by omega) dX9_isSuch_6 19 (by decide) 9 rfl (fun h6 => ?_) (fun h6 => ?_)
    · have hres : decide (a = 0 ∨ a = (k : Int) ∨ (a = 1 ∧ k = 4)) = true := decide_eq_true (by omega)
      refine zg_iconst hX dX9_isSuch_19 20 rfl ?_
      refine zg_goto hX dX9_isSuch_20 24 (by decide) ?_
      exact zg_zret hX hR (Nat.le_refl _) (Nat.le_refl _) (by decide) rfl dX9_isSuch_24 (by first | exact pB_t hres | exact pB_f hres)
    · refine zg_iload_n hX 1 rfl dX9_isSuch_9 rfl 10 rfl ?_
      refine zg_iconst hX dX9_isSuch_10 11 rfl ?_
      refine zg_icmp_ne hX (by omega) (by omega) dX9_isSuch_11 23 (by decide) 14 rfl (fun h11 => ?_) (fun h11 => ?_)
      · have hres : decide (a = 0 ∨ a = (k : Int) ∨ (a = 1 ∧ k = 4)) = false := decide_eq_false (by omega)
        refine zg_iconst hX dX9_isSuch_23 24 rfl ?_
        exact zg_zret hX hR (Nat.le_refl _) (Nat.le_refl _) (by decide) rfl dX9_isSuch_24 (by first | exact pB_t hres | exact pB_f hres)
      · refine zg_iload_n hX 0 rfl dX9_isSuch_14 rfl 15 rfl ?_
        refine zg_iconst hX dX9_isSuch_15 16 rfl ?_
        refine zg_icmp_ne hX (by omega) (by omega) dX9_isSuch_16 23 (by decide) 19 rfl (fun h16 => ?_) (fun h16 => ?_)
        · have hres : decide (a = 0 ∨ a = (k : Int) ∨ (a = 1 ∧ k = 4)) = false := decide_eq_false (by omega)
          refine zg_iconst hX dX9_isSuch_23 24 rfl ?_
          exact zg_zret hX hR (Nat.le_refl _) (Nat.le_refl _) (by decide) rfl dX9_isSuch_24 (by first | exact pB_t hres | exact pB_f hres)
        · have hres : decide (a = 0 ∨ a = (k : Int) ∨ (a = 1 ∧ k = 4)) = true := decide_eq_true (by omega)
          refine zg_iconst hX dX9_isSuch_19 20 rfl ?_
          refine zg_goto hX dX9_isSuch_20 24 (by decide) ?_
          exact zg_zret hX hR (Nat.le_refl _) (Nat.le_refl _) (by decide) rfl dX9_isSuch_24 (by first | exact pB_t hres | exact pB_f hres)
-- X9_isOfRow
set_option maxRecDepth 20000 in
theorem c_X9_isOfRow (l : Launch) (D : va_G) (cI : ClassId) (W0 : va_W) (a : Int) (ha : -2147483648 ≤ a ∧ a < 2147483648) : Cn l D cI yX9_isOfRow cX9_isOfRow 1 (some .boolean) 0 0 0 [.int (zI a)] W0 (pI (b2 (decide (a = 0 ∨ 10 ≤ a ∧ a ≤ 15))) W0) := by
  refine Cn.of [(0, .int (zI a))] (by decide +kernel) (Nat.le_of_ble_eq_true rfl) rfl (fun X hX hR => ?_)
  refine zg_iload_n hX 0 rfl dX9_isOfRow_0 rfl 1 rfl ?_
  refine zg_if_eq hX (by omega) dX9_isOfRow_1 16 (by decide) 4 rfl (fun h1 => ?_) (fun h1 => ?_)
  · have hres : decide (a = 0 ∨ 10 ≤ a ∧ a ≤ 15) = true := decide_eq_true (by omega)
    refine zg_iconst hX dX9_isOfRow_16 17 rfl ?_
    refine zg_goto hX dX9_isOfRow_17 21 (by decide) ?_
    exact zg_zret hX hR (Nat.le_refl _) (Nat.le_refl _) (by decide) rfl dX9_isOfRow_21 (by first | exact pB_t hres | exact pB_f hres)
  · refine zg_iload_n hX 0 rfl dX9_isOfRow_4 rfl 5 rfl ?_
    refine zg_bipush hX dX9_isOfRow_5 7 rfl (by decide) ?_
    refine zg_icmp_lt hX (by omega) (by omega) dX9_isOfRow_7 20 (by decide) 10 rfl (fun h7 => ?_) (fun h7 => ?_)
    · have hres : decide (a = 0 ∨ 10 ≤ a ∧ a ≤ 15) = false := decide_eq_false (by omega)
      refine zg_iconst hX dX9_isOfRow_20 21 rfl ?_
      exact zg_zret hX hR (Nat.le_refl _) (Nat.le_refl _) (by decide) rfl dX9_isOfRow_21 (by first | exact pB_t hres | exact pB_f hres)
    · refine zg_iload_n hX 0 rfl dX9_isOfRow_10 rfl 11 rfl ?_
      refine zg_bipush hX dX9_isOfRow_11 13 rfl (by decide) ?_
      refine zg_icmp_ge hX (by omega) (by omega) dX9_isOfRow_13 20 (by decide) 16 rfl (fun h13 => ?_) (fun h13 => ?_)
      · have hres : decide (a = 0 ∨ 10 ≤ a ∧ a ≤ 15) = false := decide_eq_false (by omega)
        refine zg_iconst hX dX9_isOfRow_20 21 rfl ?_
        exact zg_zret hX hR (Nat.le_refl _) (Nat.le_refl _) (by decide) rfl dX9_isOfRow_21 (by first | exact pB_t hres | exact pB_f hres)
      · have hres : decide (a = 0 ∨ 10 ≤ a ∧ a ≤ 15) = true := decide_eq_true (by omega)
        refine zg_iconst hX dX9_isOfRow_16 17 rfl ?_
        refine zg_goto hX dX9_isOfRow_17 21 (by decide) ?_
        exact zg_zret hX hR (Nat.le_refl _) (Nat.le_refl _) (by decide) rfl dX9_isOfRow_21 (by first | exact pB_t hres | exact pB_f hres)
-- ofHearing
set_option maxRecDepth 20000 in
theorem c_X9_ofHearing (l : Launch) (D : va_G) (cI : ClassId) (W0 : va_W) (w : Int) (s : Nat → Nat) (hw : 0 ≤ w ∧ w ≤ 1) (hs : ∀ p, s p < 16) : Cn l D cI yX9_ofHearing cX9_ofHearing 2 (some .int) 2 0 0 [.int (zI w), .int (zI (n6 s))] W0 (pI (if w = 0 then (su s 6 : Int) else fz s 0 6) W0) := by
  refine Cn.of [(0, .int (zI w)), (1, .int (zI (n6 s)))] (by decide +kernel) (Nat.le_of_ble_eq_true rfl) rfl (fun X hX hR => ?_)
  refine zg_iload_n hX 0 rfl dX9_ofHearing_0 rfl 1 rfl ?_
  refine zg_if_ne hX (by omega) dX9_ofHearing_1 11 (by decide) 4 rfl (fun h1 => ?_) (fun h1 => ?_)
  · refine zg_iload_n hX 1 rfl dX9_ofHearing_11 rfl 12 rfl ?_
    refine zg_callSi (As := [.int (zI (n6 s))]) (rest := []) hX (c_X5_firstAboveZero l D cI _ s hs) mw_469 mw_470 mw_12 mw_471 sg_X5_firstAboveZero.2 (by decide) (by decide) (Nat.le_refl _) (Nat.le_refl _) rfl (Nat.le_of_ble_eq_true rfl) dX9_ofHearing_12 15 rfl ?_
    exact zg_iret hX hR (Nat.le_refl _) (Nat.le_refl _) rfl dX9_ofHearing_15 (pI_of (by first | (rw [if_pos (by omega)]; done) | (rw [if_neg (by omega)]; done)))
  · refine zg_iload_n hX 1 rfl dX9_ofHearing_4 rfl 5 rfl ?_
    refine zg_callSi (As := [.int (zI (n6 s))]) (rest := []) hX (c_X5_sum l D cI _ s hs) mw_456 mw_379 mw_12 mw_380 sg_X5_sum.2 (by decide) (by decide) (Nat.le_refl _) (Nat.le_refl _) rfl (Nat.le_of_ble_eq_true rfl) dX9_ofHearing_5 8 rfl ?_
    refine zg_goto hX dX9_ofHearing_8 15 (by decide) ?_
    exact zg_iret hX hR (Nat.le_refl _) (Nat.le_refl _) rfl dX9_ofHearing_15 (pI_of (by first | (rw [if_pos (by omega)]; done) | (rw [if_neg (by omega)]; done)))
-- Integer.bitCount
set_option maxRecDepth 20000 in
theorem c_J6_bitCount_0f7a4 (l : Launch) (D : va_G) (cI : ClassId) (W0 : va_W) (n : Nat) (hn : n < 16) : Cn l D cI yJ6_bitCount_0f7a4 cJ6_bitCount_0f7a4 1 (some .int) 0 0 0 [.int (zI (n : Int))] W0 (pI (pc4 n : Int) W0) := by
  refine Cn.of [(0, .int (zI (n : Int)))] (by decide +kernel) (Nat.le_of_ble_eq_true rfl) rfl (fun X hX hR => ?_)
  refine zg_iload_n hX 0 rfl dJ6_bitCount_0f7a4_0 rfl 1 rfl ?_
  refine zg_iload_n hX 0 rfl dJ6_bitCount_0f7a4_1 rfl 2 rfl ?_
  refine zg_iconst hX dJ6_bitCount_0f7a4_2 3 rfl ?_
  refine zg_iushr hX ((([0, 0, 1, 1, 2, 2, 3, 3, 4, 4, 5, 5, 6, 6, 7, 7] : List Nat).getD n 0 : Nat) : Int) ((by decide +kernel : ∀ n : Nat, n < 16 → ((zI (n : Int)).toUInt32 >>> ((zI 1).toUInt32 &&& Int32.toUInt32 31)).toInt32 = zI ((([0, 0, 1, 1, 2, 2, 3, 3, 4, 4, 5, 5, 6, 6, 7, 7] : List Nat).getD n 0 : Nat) : Int)) n hn) dJ6_bitCount_0f7a4_3 4 rfl ?_
  refine zg_ldcw (a := 1431655765) hX mw_618 (by decide) dJ6_bitCount_0f7a4_4 7 rfl ?_
  refine zg_iand hX ((([0, 0, 1, 1, 0, 0, 1, 1, 4, 4, 5, 5, 4, 4, 5, 5] : List Nat).getD n 0 : Nat) : Int) ((by decide +kernel : ∀ n : Nat, n < 16 → (zI ((([0, 0, 1, 1, 2, 2, 3, 3, 4, 4, 5, 5, 6, 6, 7, 7] : List Nat).getD n 0 : Nat) : Int) &&& zI 1431655765) = zI ((([0, 0, 1, 1, 0, 0, 1, 1, 4, 4, 5, 5, 4, 4, 5, 5] : List Nat).getD n 0 : Nat) : Int)) n hn) dJ6_bitCount_0f7a4_7 8 rfl ?_
  refine zg_isub hX dJ6_bitCount_0f7a4_8 9 rfl ?_
  refine zg_istore_n hX [(0, .int (zI ((n : Int) - ((([0, 0, 1, 1, 0, 0, 1, 1, 4, 4, 5, 5, 4, 4, 5, 5] : List Nat).getD n 0 : Nat) : Int))))] dJ6_bitCount_0f7a4_9 rfl (by decide) rfl 10 rfl ?_
  refine zg_iload_n hX 0 rfl dJ6_bitCount_0f7a4_10 rfl 11 rfl ?_
  refine zg_ldcw (a := 858993459) hX mw_619 (by decide) dJ6_bitCount_0f7a4_11 14 rfl ?_
  refine zg_iand hX ((([0, 1, 1, 2, 0, 1, 1, 2, 0, 1, 1, 2, 0, 1, 1, 2] : List Nat).getD n 0 : Nat) : Int) ((by decide +kernel : ∀ n : Nat, n < 16 → (zI ((n : Int) - ((([0, 0, 1, 1, 0, 0, 1, 1, 4, 4, 5, 5, 4, 4, 5, 5] : List Nat).getD n 0 : Nat) : Int)) &&& zI 858993459) = zI ((([0, 1, 1, 2, 0, 1, 1, 2, 0, 1, 1, 2, 0, 1, 1, 2] : List Nat).getD n 0 : Nat) : Int)) n hn) dJ6_bitCount_0f7a4_14 15 rfl ?_
  refine zg_iload_n hX 0 rfl dJ6_bitCount_0f7a4_15 rfl 16 rfl ?_
  refine zg_iconst hX dJ6_bitCount_0f7a4_16 17 rfl ?_
  refine zg_iushr hX ((([0, 0, 0, 0, 1, 1, 1, 1, 1, 1, 1, 1, 2, 2, 2, 2] : List Nat).getD n 0 : Nat) : Int) ((by decide +kernel : ∀ n : Nat, n < 16 → ((zI ((n : Int) - ((([0, 0, 1, 1, 0, 0, 1, 1, 4, 4, 5, 5, 4, 4, 5, 5] : List Nat).getD n 0 : Nat) : Int))).toUInt32 >>> ((zI 2).toUInt32 &&& Int32.toUInt32 31)).toInt32 = zI ((([0, 0, 0, 0, 1, 1, 1, 1, 1, 1, 1, 1, 2, 2, 2, 2] : List Nat).getD n 0 : Nat) : Int)) n hn) dJ6_bitCount_0f7a4_17 18 rfl ?_
  refine zg_ldcw (a := 858993459) hX mw_619 (by decide) dJ6_bitCount_0f7a4_18 21 rfl ?_
  refine zg_iand hX ((([0, 0, 0, 0, 1, 1, 1, 1, 1, 1, 1, 1, 2, 2, 2, 2] : List Nat).getD n 0 : Nat) : Int) ((by decide +kernel : ∀ n : Nat, n < 16 → (zI ((([0, 0, 0, 0, 1, 1, 1, 1, 1, 1, 1, 1, 2, 2, 2, 2] : List Nat).getD n 0 : Nat) : Int) &&& zI 858993459) = zI ((([0, 0, 0, 0, 1, 1, 1, 1, 1, 1, 1, 1, 2, 2, 2, 2] : List Nat).getD n 0 : Nat) : Int)) n hn) dJ6_bitCount_0f7a4_21 22 rfl ?_
  refine zg_iadd hX dJ6_bitCount_0f7a4_22 23 rfl ?_
  refine zg_istore_n hX [(0, .int (zI (((([0, 1, 1, 2, 0, 1, 1, 2, 0, 1, 1, 2, 0, 1, 1, 2] : List Nat).getD n 0 : Nat) : Int) + ((([0, 0, 0, 0, 1, 1, 1, 1, 1, 1, 1, 1, 2, 2, 2, 2] : List Nat).getD n 0 : Nat) : Int))))] dJ6_bitCount_0f7a4_23 rfl (by decide) rfl 24 rfl ?_
  refine zg_iload_n hX 0 rfl dJ6_bitCount_0f7a4_24 rfl 25 rfl ?_
  refine zg_iload_n hX 0 rfl dJ6_bitCount_0f7a4_25 rfl 26 rfl ?_
  refine zg_iconst hX dJ6_bitCount_0f7a4_26 27 rfl ?_
  refine zg_iushr hX ((([0, 0, 0, 0, 0, 0, 0, 0, 0, 0, 0, 0, 0, 0, 0, 0] : List Nat).getD n 0 : Nat) : Int) ((by decide +kernel : ∀ n : Nat, n < 16 → ((zI (((([0, 1, 1, 2, 0, 1, 1, 2, 0, 1, 1, 2, 0, 1, 1, 2] : List Nat).getD n 0 : Nat) : Int) + ((([0, 0, 0, 0, 1, 1, 1, 1, 1, 1, 1, 1, 2, 2, 2, 2] : List Nat).getD n 0 : Nat) : Int))).toUInt32 >>> ((zI 4).toUInt32 &&& Int32.toUInt32 31)).toInt32 = zI ((([0, 0, 0, 0, 0, 0, 0, 0, 0, 0, 0, 0, 0, 0, 0, 0] : List Nat).getD n 0 : Nat) : Int)) n hn) dJ6_bitCount_0f7a4_27 28 rfl ?_
  refine zg_iadd hX dJ6_bitCount_0f7a4_28 29 rfl ?_
  refine zg_ldcw (a := 252645135) hX mw_620 (by decide) dJ6_bitCount_0f7a4_29 32 rfl ?_
  refine zg_iand hX ((([0, 1, 1, 2, 1, 2, 2, 3, 1, 2, 2, 3, 2, 3, 3, 4] : List Nat).getD n 0 : Nat) : Int) ((by decide +kernel : ∀ n : Nat, n < 16 → (zI ((((([0, 1, 1, 2, 0, 1, 1, 2, 0, 1, 1, 2, 0, 1, 1, 2] : List Nat).getD n 0 : Nat) : Int) + ((([0, 0, 0, 0, 1, 1, 1, 1, 1, 1, 1, 1, 2, 2, 2, 2] : List Nat).getD n 0 : Nat) : Int)) + ((([0, 0, 0, 0, 0, 0, 0, 0, 0, 0, 0, 0, 0, 0, 0, 0] : List Nat).getD n 0 : Nat) : Int)) &&& zI 252645135) = zI ((([0, 1, 1, 2, 1, 2, 2, 3, 1, 2, 2, 3, 2, 3, 3, 4] : List Nat).getD n 0 : Nat) : Int)) n hn) dJ6_bitCount_0f7a4_32 33 rfl ?_
  refine zg_istore_n hX [(0, .int (zI ((([0, 1, 1, 2, 1, 2, 2, 3, 1, 2, 2, 3, 2, 3, 3, 4] : List Nat).getD n 0 : Nat) : Int)))] dJ6_bitCount_0f7a4_33 rfl (by decide) rfl 34 rfl ?_
  refine zg_iload_n hX 0 rfl dJ6_bitCount_0f7a4_34 rfl 35 rfl ?_
  refine zg_iload_n hX 0 rfl dJ6_bitCount_0f7a4_35 rfl 36 rfl ?_
  refine zg_bipush hX dJ6_bitCount_0f7a4_36 38 rfl (by decide) ?_
  refine zg_iushr hX ((([0, 0, 0, 0, 0, 0, 0, 0, 0, 0, 0, 0, 0, 0, 0, 0] : List Nat).getD n 0 : Nat) : Int) ((by decide +kernel : ∀ n : Nat, n < 16 → ((zI ((([0, 1, 1, 2, 1, 2, 2, 3, 1, 2, 2, 3, 2, 3, 3, 4] : List Nat).getD n 0 : Nat) : Int)).toUInt32 >>> ((zI 8).toUInt32 &&& Int32.toUInt32 31)).toInt32 = zI ((([0, 0, 0, 0, 0, 0, 0, 0, 0, 0, 0, 0, 0, 0, 0, 0] : List Nat).getD n 0 : Nat) : Int)) n hn) dJ6_bitCount_0f7a4_38 39 rfl ?_
  refine zg_iadd hX dJ6_bitCount_0f7a4_39 40 rfl ?_
  refine zg_istore_n hX [(0, .int (zI (((([0, 1, 1, 2, 1, 2, 2, 3, 1, 2, 2, 3, 2, 3, 3, 4] : List Nat).getD n 0 : Nat) : Int) + ((([0, 0, 0, 0, 0, 0, 0, 0, 0, 0, 0, 0, 0, 0, 0, 0] : List Nat).getD n 0 : Nat) : Int))))] dJ6_bitCount_0f7a4_40 rfl (by decide) rfl 41 rfl ?_
  refine zg_iload_n hX 0 rfl dJ6_bitCount_0f7a4_41 rfl 42 rfl ?_
  refine zg_iload_n hX 0 rfl dJ6_bitCount_0f7a4_42 rfl 43 rfl ?_
  refine zg_bipush hX dJ6_bitCount_0f7a4_43 45 rfl (by decide) ?_
  refine zg_iushr hX ((([0, 0, 0, 0, 0, 0, 0, 0, 0, 0, 0, 0, 0, 0, 0, 0] : List Nat).getD n 0 : Nat) : Int) ((by decide +kernel : ∀ n : Nat, n < 16 → ((zI (((([0, 1, 1, 2, 1, 2, 2, 3, 1, 2, 2, 3, 2, 3, 3, 4] : List Nat).getD n 0 : Nat) : Int) + ((([0, 0, 0, 0, 0, 0, 0, 0, 0, 0, 0, 0, 0, 0, 0, 0] : List Nat).getD n 0 : Nat) : Int))).toUInt32 >>> ((zI 16).toUInt32 &&& Int32.toUInt32 31)).toInt32 = zI ((([0, 0, 0, 0, 0, 0, 0, 0, 0, 0, 0, 0, 0, 0, 0, 0] : List Nat).getD n 0 : Nat) : Int)) n hn) dJ6_bitCount_0f7a4_45 46 rfl ?_
  refine zg_iadd hX dJ6_bitCount_0f7a4_46 47 rfl ?_
  refine zg_istore_n hX [(0, .int (zI ((((([0, 1, 1, 2, 1, 2, 2, 3, 1, 2, 2, 3, 2, 3, 3, 4] : List Nat).getD n 0 : Nat) : Int) + ((([0, 0, 0, 0, 0, 0, 0, 0, 0, 0, 0, 0, 0, 0, 0, 0] : List Nat).getD n 0 : Nat) : Int)) + ((([0, 0, 0, 0, 0, 0, 0, 0, 0, 0, 0, 0, 0, 0, 0, 0] : List Nat).getD n 0 : Nat) : Int))))] dJ6_bitCount_0f7a4_47 rfl (by decide) rfl 48 rfl ?_
  refine zg_iload_n hX 0 rfl dJ6_bitCount_0f7a4_48 rfl 49 rfl ?_
  refine zg_bipush hX dJ6_bitCount_0f7a4_49 51 rfl (by decide) ?_
  refine zg_iand hX ((([0, 1, 1, 2, 1, 2, 2, 3, 1, 2, 2, 3, 2, 3, 3, 4] : List Nat).getD n 0 : Nat) : Int) ((by decide +kernel : ∀ n : Nat, n < 16 → (zI ((((([0, 1, 1, 2, 1, 2, 2, 3, 1, 2, 2, 3, 2, 3, 3, 4] : List Nat).getD n 0 : Nat) : Int) + ((([0, 0, 0, 0, 0, 0, 0, 0, 0, 0, 0, 0, 0, 0, 0, 0] : List Nat).getD n 0 : Nat) : Int)) + ((([0, 0, 0, 0, 0, 0, 0, 0, 0, 0, 0, 0, 0, 0, 0, 0] : List Nat).getD n 0 : Nat) : Int)) &&& zI 63) = zI ((([0, 1, 1, 2, 1, 2, 2, 3, 1, 2, 2, 3, 2, 3, 3, 4] : List Nat).getD n 0 : Nat) : Int)) n hn) dJ6_bitCount_0f7a4_51 52 rfl ?_
  exact zg_iret hX hR (Nat.le_refl _) (Nat.le_refl _) rfl dJ6_bitCount_0f7a4_52 (pI_of ((by decide +kernel : ∀ n : Nat, n < 16 → ((([0, 1, 1, 2, 1, 2, 2, 3, 1, 2, 2, 3, 2, 3, 3, 4] : List Nat).getD n 0 : Nat) : Int) = (pc4 n : Int)) n hn))
-- Listener.mostLeftBy
set_option maxRecDepth 20000 in
theorem c_X4_mostLeftBy (l : Launch) (D : va_G) (cI : ClassId) (q : Nat → Nat) (f : Nat → Int) (r : Nat → Nat → Int) (w : Nat → Bool) (Q : Nat → Nat → Nat) (b : Nat) (h19 : f 19 = ((mk w 10 : Nat) : Int)) (h17 : ∀ x, x < 10 → r 17 x = n6 (Q x)) (hQ : ∀ x b, Q x b ≤ 4) (hb : b < 6) : Cn l D cI yX4_mostLeftBy cX4_mostLeftBy 5 (some .int) 1 0 0 [.ref (q 25), .int (zI (b : Int))] (cW cI q f r) (pR (cW cI q f) (fun v1 r1 => v1 = some (.int (zI (mx (fun v => cn w (fun x => Q x b) v 10) 5 : Int))) ∧ ∀ k, k ≠ 18 → r1 k = r k)) := by
  refine Cn.of [(0, .ref (q 25)), (1, .int (zI (b : Int)))] (by decide +kernel) (Nat.le_of_ble_eq_true rfl) rfl (fun X hX hR => ?_)
  have hmw := mk_rng w 10 (by omega)
  refine zg_iconst hX dX4_mostLeftBy_0 1 rfl ?_
  refine zg_istore_n hX [(2, .int (zI 0)), (0, .ref (q 25)), (1, .int (zI (b : Int)))] dX4_mostLeftBy_1 rfl (by decide) rfl 2 rfl ?_
  refine zg_iconst hX dX4_mostLeftBy_2 3 rfl ?_
  refine zg_istore_n hX [(3, .int (zI 0)), (2, .int (zI 0)), (0, .ref (q 25)), (1, .int (zI (b : Int)))] dX4_mostLeftBy_3 rfl (by decide) rfl 4 rfl ?_
  have L4 : ∀ (fuel : Nat) (i : Nat) (R1 : Nat → Nat → Int) (x4_3 : Int), (5 - i < fuel) → (i ≤ 5) → (lay 18 i (fun _ => 0) r R1) → x4_3 = (i : Int) → G X 5 0 0 (cW cI q f R1) [(0, .ref (q 25)), (1, .int (zI (b : Int))), (2, .int (zI 0)), (3, .int (zI x4_3))] 4 [] := by
    intro fuel
    induction fuel with
    | zero =>
      intro i R1 x4_3 hm4
      exact absurd hm4 (Nat.not_lt_zero _)
    | succ fuel ih4 =>
      intro i R1 x4_3 hm4 hi hR1 ex4_3
      subst ex4_3
      refine zg_iload_n hX 3 rfl dX4_mostLeftBy_4 rfl 5 rfl ?_
      refine zg_iconst hX dX4_mostLeftBy_5 6 rfl ?_
      refine zg_icmp_gt hX (by omega) (by omega) dX4_mostLeftBy_6 22 (by decide) 9 rfl (fun h6 => ?_) (fun h6 => ?_)
      · refine zg_iconst hX dX4_mostLeftBy_22 23 rfl ?_
        refine zg_istore_n hX [(3, .int (zI 0)), (0, .ref (q 25)), (1, .int (zI (b : Int))), (2, .int (zI 0))] dX4_mostLeftBy_23 rfl (by decide) rfl 24 rfl ?_
        have L24 : ∀ (fuel : Nat) (j : Nat) (R2 : Nat → Nat → Int) (x24_2 : Int) (x24_3 : Int), (10 - j < fuel) → (j ≤ 10) → (∀ k, k ≠ 18 → R2 k = r k) → (∀ v, v < 5 → R2 18 v = (cn w (fun x => Q x b) v j : Int)) → x24_2 = (mx (fun v => cn w (fun x => Q x b) v j) 5 : Int) → x24_3 = (j : Int) → G X 5 0 0 (cW cI q f R2) [(0, .ref (q 25)), (1, .int (zI (b : Int))), (2, .int (zI x24_2)), (3, .int (zI x24_3))] 24 [] := by
          intro fuel
          induction fuel with
          | zero =>
            intro j R2 x24_2 x24_3 hm24
            exact absurd hm24 (Nat.not_lt_zero _)
          | succ fuel ih24 =>
            intro j R2 x24_2 x24_3 hm24 hj hR2 h18 ex24_2 ex24_3
            subst ex24_2
            subst ex24_3
            refine zg_iload_n hX 3 rfl dX4_mostLeftBy_24 rfl 25 rfl ?_
            refine zg_bipush hX dX4_mostLeftBy_25 27 rfl (by decide) ?_
            refine zg_icmp_gt hX (by omega) (by omega) dX4_mostLeftBy_27 89 (by decide) 30 rfl (fun h27 => ?_) (fun h27 => ?_)
            · refine zg_iload_n hX 2 rfl dX4_mostLeftBy_89 rfl 90 rfl ?_
              exact zg_iret hX hR (Nat.le_refl _) (Nat.le_refl _) rfl dX4_mostLeftBy_90 (⟨R2, rfl, by rw [show j = 10 by omega], hR2⟩)
            · have hQj := hQ j b
              have hcnb := cn_le w (fun x => Q x b) (Q j b) j
              have hmxb := mx_bd (fun v => cn_le w (fun x => Q x b) v j) 5
              refine zg_aload_n hX 0 rfl dX4_mostLeftBy_30 rfl 31 rfl ?_
              refine cg_25_3 hX mw_204 dX4_mostLeftBy_31 34 rfl ?_
              refine zg_iload_n hX 3 rfl dX4_mostLeftBy_34 rfl 35 rfl ?_
              refine ca_26 hX j (n6 (Q j)) (by omega) (by omega) (by rw [hR2 17 (by decide)]; exact h17 j (by omega)) dX4_mostLeftBy_35 36 rfl ?_
              refine zg_iload_n hX 1 rfl dX4_mostLeftBy_36 rfl 37 rfl ?_
              refine zg_callSi (As := [.int (zI (n6 (Q j))), .int (zI (b : Int))]) (rest := []) hX (c_X5_get l D cI _ (Q j) b (fun p => by have := hQ j p; omega) (by omega)) mw_568 mw_363 mw_12 mw_364 sg_X5_get.2 (by decide) (by decide) (Nat.le_refl _) (Nat.le_refl _) rfl (Nat.le_of_ble_eq_true rfl) dX4_mostLeftBy_37 40 rfl ?_
              refine zg_istore hX [(4, .int (zI (Q j b : Int))), (0, .ref (q 25)), (1, .int (zI (b : Int))), (2, .int (zI (mx (fun v => cn w (fun x => Q x b) v j) 5 : Int))), (3, .int (zI (j : Int)))] dX4_mostLeftBy_40 (by decide) rfl 42 rfl ?_
              refine zg_aload_n hX 1 rfl dX4_mostLeftBy_42 rfl 43 rfl ?_
              refine cg_25_5 hX mw_206 ((mk w 10 : Nat) : Int) h19 dX4_mostLeftBy_43 46 rfl ?_
              refine zg_iload_n hX 4 rfl dX4_mostLeftBy_46 rfl 47 rfl ?_
              refine zg_ishr hX ((mk w 10 / 2 ^ j : Nat) : Int) (zb_shr (by omega) (by omega)) dX4_mostLeftBy_47 48 rfl ?_
              refine zg_iconst hX dX4_mostLeftBy_48 49 rfl ?_
              refine zg_iand hX (b2 (w j)) (zb_bit (by omega)) dX4_mostLeftBy_49 50 rfl ?_
              refine zg_iconst hX dX4_mostLeftBy_50 51 rfl ?_
              refine zg_icb1_ne hX dX4_mostLeftBy_51 83 (by decide) 54 rfl (fun h51 => ?_) (fun h51 => ?_)
              · have hcn : ∀ v, v < 5 → cn w (fun x => Q x b) v j.succ = cn w (fun x => Q x b) v j := fun v _ => by simp only [cn]; rw [if_neg (by rw [h51]; simp)]; rfl
                refine zg_iinc hX [(3, .int (zI ((j : Int) + 1))), (4, .int (zI (Q j b : Int))), (0, .ref (q 25)), (1, .int (zI (b : Int))), (2, .int (zI (mx (fun v => cn w (fun x => Q x b) v j) 5 : Int)))] 4 rfl dX4_mostLeftBy_83 (by decide) rfl 86 rfl ?_
                refine zg_goto hX dX4_mostLeftBy_86 24 (by decide) ?_
                exact zg_lv _ [2, 3, 4, 0] rfl (ih24 (j + 1) R2 _ _ (by omega) (by omega) (by first | exact hR2 | exact (fun k hk => by rw [pu_ne _ _ hk]; exact hR2 k hk)) (by first | exact hs18 | exact (fun v hv => by rw [hcn v hv]; exact h18 v hv)) (by first | exact hmx | (rw [mx_ext hcn])) (by omega))
              · refine zg_iload hX 0 rfl dX4_mostLeftBy_54 56 rfl ?_
                refine zg_iconst hX dX4_mostLeftBy_56 57 rfl ?_
                refine zg_icmp_gt hX (by omega) (by omega) dX4_mostLeftBy_57 83 (by decide) 60 rfl (fun h57 => ?_) (fun h57 => ?_)
                · omega
                · refine zg_aload_n hX 1 rfl dX4_mostLeftBy_60 rfl 61 rfl ?_
                  refine cg_25_4 hX mw_205 dX4_mostLeftBy_61 64 rfl ?_
                  refine zg_iload hX 0 rfl dX4_mostLeftBy_64 66 rfl ?_
                  refine zg_dup2 hX rfl rfl dX4_mostLeftBy_66 67 rfl ?_
                  refine ca_27 hX (Q j b) (cn w (fun x => Q x b) (Q j b) j : Int) (by omega) (by omega) (h18 _ (by omega)) dX4_mostLeftBy_67 68 rfl ?_
                  refine zg_iconst hX dX4_mostLeftBy_68 69 rfl ?_
                  refine zg_iadd hX dX4_mostLeftBy_69 70 rfl ?_
                  refine cs_27 hX (Q j b) (by omega) (by omega) dX4_mostLeftBy_70 71 rfl ?_
                  refine zg_iload_n hX 3 rfl dX4_mostLeftBy_71 rfl 72 rfl ?_
                  refine zg_aload_n hX 1 rfl dX4_mostLeftBy_72 rfl 73 rfl ?_
                  refine cg_25_4 hX mw_205 dX4_mostLeftBy_73 76 rfl ?_
                  refine zg_iload hX 0 rfl dX4_mostLeftBy_76 78 rfl ?_
                  refine ca_27 hX (Q j b) ((cn w (fun x => Q x b) (Q j b) j : Int) + 1) (by omega) (by omega) (by rw [pu_eq, pu_eq]) dX4_mostLeftBy_78 79 rfl ?_
                  refine zg_mmax hX (by omega) (by omega) mw_569 mw_336 mw_11 mw_337 (by omega) (Nat.le_refl _) (Nat.le_refl _) (Nat.le_of_ble_eq_true rfl) dX4_mostLeftBy_79 82 rfl ?_
                  have hcj : cn w (fun x => Q x b) (Q j b) (j + 1) = cn w (fun x => Q x b) (Q j b) j + 1 := by simp [cn, h51]
                  have hco : ∀ v, v < 5 → v ≠ Q j b → cn w (fun x => Q x b) v (j + 1) = cn w (fun x => Q x b) v j := fun v _ hv => by
                    simp only [cn]; rw [if_neg (fun z => hv z.2.symm)]; rfl
                  have hmi := mx_inc (c := fun v => cn w (fun x => Q x b) v j) (c2 := fun v => cn w (fun x => Q x b) v (j + 1)) (k := 5) (i := Q j b) (by omega) hcj hco
                  have hs18 : ∀ v, v < 5 → (pu R2 18 (pu (R2 18) (Q j b) ((cn w (fun x => Q x b) (Q j b) j : Int) + 1))) 18 v = (cn w (fun x => Q x b) v (j + 1) : Int) := fun v hv => by
                    rw [pu_eq, pu_at]; split
                    · next e => subst e; rw [hcj]; omega
                    · next e => rw [hco v hv e]; exact h18 v hv
                  have hmx : (if (mx (fun v => cn w (fun x => Q x b) v j) 5 : Int) < ((cn w (fun x => Q x b) (Q j b) j : Int) + 1) then ((cn w (fun x => Q x b) (Q j b) j : Int) + 1) else (mx (fun v => cn w (fun x => Q x b) v j) 5 : Int)) = (mx (fun v => cn w (fun x => Q x b) v (j + 1)) 5 : Int) := by
                    rw [hmi]; split <;> omega
                  refine zg_istore_n hX [(2, .int (zI (if (mx (fun v => cn w (fun x => Q x b) v j) 5 : Int) < ((cn w (fun x => Q x b) (Q j b) j : Int) + 1) then ((cn w (fun x => Q x b) (Q j b) j : Int) + 1) else (mx (fun v => cn w (fun x => Q x b) v j) 5 : Int)))), (4, .int (zI (Q j b : Int))), (0, .ref (q 25)), (1, .int (zI (b : Int))), (3, .int (zI (j : Int)))] dX4_mostLeftBy_82 rfl (by decide) rfl 83 rfl ?_
                  refine zg_iinc hX [(3, .int (zI ((j : Int) + 1))), (2, .int (zI (if (mx (fun v => cn w (fun x => Q x b) v j) 5 : Int) < ((cn w (fun x => Q x b) (Q j b) j : Int) + 1) then ((cn w (fun x => Q x b) (Q j b) j : Int) + 1) else (mx (fun v => cn w (fun x => Q x b) v j) 5 : Int)))), (4, .int (zI (Q j b : Int))), (0, .ref (q 25)), (1, .int (zI (b : Int)))] 4 rfl dX4_mostLeftBy_83 (by decide) rfl 86 rfl ?_
                  refine zg_goto hX dX4_mostLeftBy_86 24 (by decide) ?_
                  exact zg_lv _ [3, 4, 1, 0] rfl (ih24 (j + 1) (pu R2 18 (pu (R2 18) (Q j b) ((cn w (fun x => Q x b) (Q j b) j : Int) + 1))) _ _ (by omega) (by omega) (by first | exact hR2 | exact (fun k hk => by rw [pu_ne _ _ hk]; exact hR2 k hk)) (by first | exact hs18 | exact (fun v hv => by rw [hcn v hv]; exact h18 v hv)) (by first | exact hmx | (rw [mx_ext hcn])) (by omega))
        exact zg_lv _ [1, 2, 3, 0] rfl (L24 _ 0 R1 _ _ (Nat.lt_succ_self _) (by omega) (hR1.1) (fun v hv => hR1.2 v (by omega)) (by simp [mx, cn]) (rfl))
      · refine zg_aload_n hX 0 rfl dX4_mostLeftBy_9 rfl 10 rfl ?_
        refine cg_25_4 hX mw_205 dX4_mostLeftBy_10 13 rfl ?_
        refine zg_iload_n hX 3 rfl dX4_mostLeftBy_13 rfl 14 rfl ?_
        refine zg_iconst hX dX4_mostLeftBy_14 15 rfl ?_
        refine cs_27 hX i (by omega) (by omega) dX4_mostLeftBy_15 16 rfl ?_
        refine zg_iinc hX [(3, .int (zI ((i : Int) + 1))), (0, .ref (q 25)), (1, .int (zI (b : Int))), (2, .int (zI 0))] 3 rfl dX4_mostLeftBy_16 (by decide) rfl 19 rfl ?_
        refine zg_goto hX dX4_mostLeftBy_19 4 (by decide) ?_
        exact zg_lv _ [1, 2, 3, 0] rfl (ih4 (i + 1) (pu R1 18 (pu (R1 18) i 0)) _ (by omega) (by omega) (lay_s hR1 _ rfl) (by omega))
  exact zg_lv _ [2, 3, 1, 0] rfl (L4 _ 0 r _ (Nat.lt_succ_self _) (by omega) (lay_0 _ _ _) (rfl))
-- Listener.bestBar
set_option maxRecDepth 20000 in
theorem c_X4_bestBar (l : Launch) (D : va_G) (cI : ClassId) (q : Nat → Nat) (f : Nat → Int) (r : Nat → Nat → Int) (w : Nat → Bool) (Q : Nat → Nat → Nat) (B : Nat) (h19 : f 19 = ((mk w 10 : Nat) : Int)) (h17 : ∀ x, x < 10 → r 17 x = n6 (Q x)) (hQ : ∀ x b, Q x b ≤ 4) (hB : f 1 = (B : Int)) (hB6 : B ≤ 6) : Cn l D cI yX4_bestBar cX4_bestBar 5 (some .int) 2 0 0 [.ref (q 25)] (cW cI q f r) (pR (cW cI q f) (fun v1 r1 => v1 = some (.int (zI (if mk w 10 = 0 then -1 else (bb (fun b => mx (fun v => cn w (fun x => Q x b) v 10) 5) B).1))) ∧ ∀ k, k ≠ 18 → r1 k = r k)) := by
  refine Cn.of [(0, .ref (q 25))] (by decide +kernel) (Nat.le_of_ble_eq_true rfl) rfl (fun X hX hR => ?_)
  have hmw := mk_rng w 10 (by omega)
  refine zg_aload_n hX 0 rfl dX4_bestBar_0 rfl 1 rfl ?_
  refine cg_25_5 hX mw_206 ((mk w 10 : Nat) : Int) h19 dX4_bestBar_1 4 rfl ?_
  refine zg_if_ne hX (by omega) dX4_bestBar_4 9 (by decide) 7 rfl (fun h4 => ?_) (fun h4 => ?_)
  · refine zg_iconst hX dX4_bestBar_9 10 rfl ?_
    refine zg_istore_n hX [(1, .int (zI (-1))), (0, .ref (q 25))] dX4_bestBar_10 rfl (by decide) rfl 11 rfl ?_
    refine zg_bipush hX dX4_bestBar_11 13 rfl (by decide) ?_
    refine zg_istore_n hX [(2, .int (zI 11)), (1, .int (zI (-1))), (0, .ref (q 25))] dX4_bestBar_13 rfl (by decide) rfl 14 rfl ?_
    refine zg_iconst hX dX4_bestBar_14 15 rfl ?_
    refine zg_istore_n hX [(3, .int (zI 0)), (2, .int (zI 11)), (1, .int (zI (-1))), (0, .ref (q 25))] dX4_bestBar_15 rfl (by decide) rfl 16 rfl ?_
    have L16 : ∀ (fuel : Nat) (i : Nat) (R1 : Nat → Nat → Int) (x16_1 : Int) (x16_2 : Int) (x16_3 : Int), (B - i < fuel) → (i ≤ B) → (∀ k, k ≠ 18 → R1 k = r k) → x16_1 = ((bb (fun b => mx (fun v => cn w (fun x => Q x b) v 10) 5) i).1) → x16_2 = ((bb (fun b => mx (fun v => cn w (fun x => Q x b) v 10) 5) i).2 : Int) → x16_3 = (i : Int) → G X 5 0 0 (cW cI q f R1) [(0, .ref (q 25)), (1, .int (zI x16_1)), (2, .int (zI x16_2)), (3, .int (zI x16_3))] 16 [] := by
      intro fuel
      induction fuel with
      | zero =>
        intro i R1 x16_1 x16_2 x16_3 hm16
        exact absurd hm16 (Nat.not_lt_zero _)
      | succ fuel ih16 =>
        intro i R1 x16_1 x16_2 x16_3 hm16 hi hR1 ex16_1 ex16_2 ex16_3
        subst ex16_1
        subst ex16_2
        subst ex16_3
        refine zg_iload_n hX 3 rfl dX4_bestBar_16 rfl 17 rfl ?_
        refine zg_aload_n hX 0 rfl dX4_bestBar_17 rfl 18 rfl ?_
        refine cg_25_0 hX mw_201 dX4_bestBar_18 21 rfl ?_
        refine cg_3_2 hX mw_58 (B : Int) hB dX4_bestBar_21 24 rfl ?_
        refine zg_icmp_ge hX (by omega) (by omega) dX4_bestBar_24 51 (by decide) 27 rfl (fun h24 => ?_) (fun h24 => ?_)
        · refine zg_iload_n hX 1 rfl dX4_bestBar_51 rfl 52 rfl ?_
          exact zg_iret hX hR (Nat.le_refl _) (Nat.le_refl _) rfl dX4_bestBar_52 (⟨R1, rfl, by rw [if_neg (by omega), show i = B by omega], hR1⟩)
        · refine zg_aload_n hX 0 rfl dX4_bestBar_27 rfl 28 rfl ?_
          refine zg_iload_n hX 3 rfl dX4_bestBar_28 rfl 29 rfl ?_
          refine zg_callV (As := [.int (zI (i : Int))]) (rest := []) (k0 := 25) (ci := 4) hX (c_X4_mostLeftBy l D cI q f R1 w Q i h19 (fun x hx => by rw [hR1 17 (by decide)]; exact h17 x hx) hQ (by omega)) mw_564 mw_566 mw_s7 mw_8 mw_567 sg_X4_mostLeftBy (by decide) (by decide) (Nat.le_refl _) (Nat.le_refl _) rfl rfl rfl (Nat.le_of_ble_eq_true rfl) dX4_bestBar_29 32 rfl (fun v29 W29 hp29 => ?_)
          obtain ⟨R29, rfl, rfl, hf29⟩ := hp29
          show G X 5 0 0 (cW cI q f R29) [(0, .ref (q 25)), (1, .int (zI ((bb (fun b => mx (fun v => cn w (fun x => Q x b) v 10) 5) i).1))), (2, .int (zI ((bb (fun b => mx (fun v => cn w (fun x => Q x b) v 10) 5) i).2 : Int))), (3, .int (zI (i : Int)))] 32 [.int (zI ((fun b => mx (fun v => cn w (fun x => Q x b) v 10) 5) i : Int))]
          refine zg_istore hX [(4, .int (zI ((fun b => mx (fun v => cn w (fun x => Q x b) v 10) 5) i : Int))), (0, .ref (q 25)), (1, .int (zI ((bb (fun b => mx (fun v => cn w (fun x => Q x b) v 10) 5) i).1))), (2, .int (zI ((bb (fun b => mx (fun v => cn w (fun x => Q x b) v 10) 5) i).2 : Int))), (3, .int (zI (i : Int)))] dX4_bestBar_32 (by decide) rfl 34 rfl ?_
          have hmb : (fun b => mx (fun v => cn w (fun x => Q x b) v 10) 5) i ≤ 10 := mx_bd (fun v => cn_le w (fun x => Q x i) v 10) 5
          have hbr : (bb (fun b => mx (fun v => cn w (fun x => Q x b) v 10) 5) i).2 ≤ 11 := bb_le _ (fun b => mx_bd (fun v => cn_le w (fun x => Q x b) v 10) 5) i
          refine zg_iload hX 0 rfl dX4_bestBar_34 36 rfl ?_
          refine zg_iload_n hX 3 rfl dX4_bestBar_36 rfl 37 rfl ?_
          refine zg_icmp_ge hX (by omega) (by omega) dX4_bestBar_37 45 (by decide) 40 rfl (fun h37 => ?_) (fun h37 => ?_)
          · have hb0 : ¬ (fun b => mx (fun v => cn w (fun x => Q x b) v 10) 5) i < (bb (fun b => mx (fun v => cn w (fun x => Q x b) v 10) 5) i).2 := by omega
            refine zg_iinc hX [(3, .int (zI ((i : Int) + 1))), (4, .int (zI ((fun b => mx (fun v => cn w (fun x => Q x b) v 10) 5) i : Int))), (0, .ref (q 25)), (1, .int (zI ((bb (fun b => mx (fun v => cn w (fun x => Q x b) v 10) 5) i).1))), (2, .int (zI ((bb (fun b => mx (fun v => cn w (fun x => Q x b) v 10) 5) i).2 : Int)))] 4 rfl dX4_bestBar_45 (by decide) rfl 48 rfl ?_
            refine zg_goto hX dX4_bestBar_48 16 (by decide) ?_
            exact zg_lv _ [2, 3, 4, 0] rfl (ih16 (i + 1) R29 _ _ _ (by omega) (by omega) (fun k hk => (hf29 k hk).trans (hR1 k hk)) (by first | exact hb1 | (rw [bb, if_neg hb0])) (by first | exact hb2 | (rw [bb, if_neg hb0])) (by omega))
          · have hb9 : (fun b => mx (fun v => cn w (fun x => Q x b) v 10) 5) i < (bb (fun b => mx (fun v => cn w (fun x => Q x b) v 10) 5) i).2 := by omega
            have hb1 : (i : Int) = (bb (fun b => mx (fun v => cn w (fun x => Q x b) v 10) 5) (i + 1)).1 := by rw [bb, if_pos hb9]
            have hb2 : ((fun b => mx (fun v => cn w (fun x => Q x b) v 10) 5) i : Int) = ((bb (fun b => mx (fun v => cn w (fun x => Q x b) v 10) 5) (i + 1)).2 : Int) := by rw [bb, if_pos hb9]
            refine zg_iload_n hX 4 rfl dX4_bestBar_40 rfl 41 rfl ?_
            refine zg_istore_n hX [(1, .int (zI (i : Int))), (4, .int (zI ((fun b => mx (fun v => cn w (fun x => Q x b) v 10) 5) i : Int))), (0, .ref (q 25)), (2, .int (zI ((bb (fun b => mx (fun v => cn w (fun x => Q x b) v 10) 5) i).2 : Int))), (3, .int (zI (i : Int)))] dX4_bestBar_41 rfl (by decide) rfl 42 rfl ?_
            refine zg_iload hX 1 rfl dX4_bestBar_42 44 rfl ?_
            refine zg_istore_n hX [(2, .int (zI ((fun b => mx (fun v => cn w (fun x => Q x b) v 10) 5) i : Int))), (1, .int (zI (i : Int))), (4, .int (zI ((fun b => mx (fun v => cn w (fun x => Q x b) v 10) 5) i : Int))), (0, .ref (q 25)), (3, .int (zI (i : Int)))] dX4_bestBar_44 rfl (by decide) rfl 45 rfl ?_
            refine zg_iinc hX [(3, .int (zI ((i : Int) + 1))), (2, .int (zI ((fun b => mx (fun v => cn w (fun x => Q x b) v 10) 5) i : Int))), (1, .int (zI (i : Int))), (4, .int (zI ((fun b => mx (fun v => cn w (fun x => Q x b) v 10) 5) i : Int))), (0, .ref (q 25))] 4 rfl dX4_bestBar_45 (by decide) rfl 48 rfl ?_
            refine zg_goto hX dX4_bestBar_48 16 (by decide) ?_
            exact zg_lv _ [4, 2, 1, 0] rfl (ih16 (i + 1) R29 _ _ _ (by omega) (by omega) (fun k hk => (hf29 k hk).trans (hR1 k hk)) (by first | exact hb1 | (rw [bb, if_neg hb0])) (by first | exact hb2 | (rw [bb, if_neg hb0])) (by omega))
    exact zg_lv _ [3, 2, 1, 0] rfl (L16 _ 0 r _ _ _ (Nat.lt_succ_self _) (by omega) (fun _ _ => rfl) (rfl) (rfl) (rfl))
  · refine zg_iconst hX dX4_bestBar_7 8 rfl ?_
    exact zg_iret hX hR (Nat.le_refl _) (Nat.le_refl _) rfl dX4_bestBar_8 (⟨r, rfl, by rw [if_pos (by omega)], fun _ _ => rfl⟩)
-- Listener.study
set_option maxRecDepth 20000 in
theorem c_X4_study (l : Launch) (D : va_G) (cI : ClassId) (q : Nat → Nat) (f : Nat → Int) (r : Nat → Nat → Int) (P : Pc) (E : Ev) (p : Nat) (hP : pOK P) (hEk : eOK P E) (hPc : gPcC (f 1) (f 2) (r 1) (r 2) P) (hE : gEvC (f 3) (f 4) (f 5) (f 6) (f 7) (f 8) (f 9) (r 3) (r 4) (r 5) (r 6) (r 7) E) (hp : p < en E) : Cn l D cI yX4_study cX4_study 4 none 4 0 0 [.ref (q 25), .int (zI (p : Int))] (cW cI q f r) (pC (cW cI q) (fun v f1 r1 => v = none ∧ frS f f1 r r1 ∧ f1 19 = ((mk (fun x => so (rho P E) (pu (et E) p x) (eb E) (el E) (eT E)) 10 : Nat) : Int) ∧ ∀ x, x < 10 → r1 17 x = n6 (lsv (rho P E) (pu (et E) p x) (pb P)))) := by
  refine Cn.of [(0, .ref (q 25)), (1, .int (zI (p : Int)))] (by decide +kernel) (Nat.le_of_ble_eq_true rfl) rfl (fun X hX hR => ?_)
  have hn4 := hEk.1
  have hT6 := hEk.2.2.2.2.1
  have hb6 := hP.1
  have hbk := hEk.2.2.2.2.2.2.1
  have hρ : RuOK (rho P E) := rho_OK hP hEk
  have ht : tk (rho P E) (et E) := rho_tk hEk
  refine zg_aload_n hX 0 rfl dX4_study_0 rfl 1 rfl ?_
  refine zg_iconst hX dX4_study_1 2 rfl ?_
  refine cp_25_5 hX mw_206 dX4_study_2 5 rfl ?_
  refine zg_iconst hX dX4_study_5 6 rfl ?_
  refine zg_istore_n hX [(2, .int (zI 0)), (0, .ref (q 25)), (1, .int (zI (p : Int)))] dX4_study_6 rfl (by decide) rfl 7 rfl ?_
  have L7 : ∀ (fuel : Nat) (i : Nat) (F1 : Nat → Int) (R1 : Nat → Nat → Int) (x7_2 : Int), (10 - i < fuel) → (i ≤ 10) → (frS f F1 r R1) → (F1 19 = ((mk (fun x => so (rho P E) (pu (et E) p x) (eb E) (el E) (eT E)) i : Nat) : Int)) → (∀ x, x < i → R1 17 x = n6 (lsv (rho P E) (pu (et E) p x) (pb P))) → x7_2 = (i : Int) → G X 4 0 0 (cW cI q F1 R1) [(0, .ref (q 25)), (1, .int (zI (p : Int))), (2, .int (zI x7_2))] 7 [] := by
    intro fuel
    induction fuel with
    | zero =>
      intro i F1 R1 x7_2 hm7
      exact absurd hm7 (Nat.not_lt_zero _)
    | succ fuel ih7 =>
      intro i F1 R1 x7_2 hm7 hi hfr h19 h17 ex7_2
      subst ex7_2
      refine zg_iload_n hX 2 rfl dX4_study_7 rfl 8 rfl ?_
      refine zg_bipush hX dX4_study_8 10 rfl (by decide) ?_
      refine zg_icmp_gt hX (by omega) (by omega) dX4_study_10 69 (by decide) 13 rfl (fun h10 => ?_) (fun h10 => ?_)
      · exact zg_vret hX hR (Nat.le_refl _) (Nat.le_refl _) rfl dX4_study_69 (⟨F1, R1, rfl, rfl, hfr, by rw [show (10 : Nat) = i by omega]; exact h19, fun x hx => h17 x (by omega)⟩)
      · have hc1 : cR F1 R1 (rho P E) := cR_fr (cR_of hPc hE) hfr
        have ht1 : tk (rho P E) (pu (et E) p i) := tk_pu ht hp (by omega)
        refine zg_aload_n hX 0 rfl dX4_study_13 rfl 14 rfl ?_
        refine cg_25_2 hX mw_203 dX4_study_14 17 rfl ?_
        refine zg_aload_n hX 0 rfl dX4_study_17 rfl 18 rfl ?_
        refine cg_25_1 hX mw_202 dX4_study_18 21 rfl ?_
        refine cg_6_7 hX mw_97 (n6 (et E)) ((hfr.1 5 (by omega)).trans hE.2.2.1) dX4_study_21 24 rfl ?_
        refine zg_iload_n hX 1 rfl dX4_study_24 rfl 25 rfl ?_
        refine zg_iload_n hX 2 rfl dX4_study_25 rfl 26 rfl ?_
        refine zg_callSi (As := [.int (zI (n6 (et E))), .int (zI (p : Int)), .int (zI (i : Int))]) (rest := [.ref (q 18)]) hX (c_X5_with l D cI _ (et E) p i (tk_16 ht) (by omega) (by omega)) mw_549 mw_376 mw_12 mw_377 sg_X5_with.2 (by decide) (by decide) (Nat.le_refl _) (Nat.le_refl _) rfl (Nat.le_of_ble_eq_true rfl) dX4_study_26 29 rfl ?_
        refine zg_callVi (As := [.int (zI (n6 (pu (et E) p i)))]) (rest := []) (k0 := 18) (ci := 2) hX (c_X2_lossesFrom l D cI q F1 R1 (rho P E) (pu (et E) p i) hρ hc1 ht1) mw_550 mw_351 mw_352 mw_5 mw_353 sg_X2_lossesFrom (by decide) (by decide) (Nat.le_refl _) (Nat.le_refl _) rfl rfl rfl (Nat.le_of_ble_eq_true rfl) dX4_study_29 32 rfl ?_
        refine zg_istore_n hX [(3, .int (zI (n6 (lsv (rho P E) (pu (et E) p i) (pb P))))), (0, .ref (q 25)), (1, .int (zI (p : Int))), (2, .int (zI (i : Int)))] dX4_study_32 rfl (by decide) rfl 33 rfl ?_
        refine zg_aload_n hX 1 rfl dX4_study_33 rfl 34 rfl ?_
        refine cg_25_3 hX mw_204 dX4_study_34 37 rfl ?_
        refine zg_iload_n hX 3 rfl dX4_study_37 rfl 38 rfl ?_
        refine zg_iload_n hX 0 rfl dX4_study_38 rfl 39 rfl ?_
        refine cs_26 hX i (by omega) (by omega) dX4_study_39 40 rfl ?_
        refine zg_aload_n hX 1 rfl dX4_study_40 rfl 41 rfl ?_
        refine cg_25_1 hX mw_202 dX4_study_41 44 rfl ?_
        refine zg_iload_n hX 0 rfl dX4_study_44 rfl 45 rfl ?_
        refine zg_callVi (As := [.int (zI (n6 (lsv (rho P E) (pu (et E) p i) (pb P))))]) (rest := []) (k0 := 6) (ci := 3) hX (c_X3_isAsTold l D cI q F1 (pu R1 17 (pu (R1 17) i (n6 (lsv (rho P E) (pu (et E) p i) (pb P))))) E (lsv (rho P E) (pu (et E) p i) (pb P)) (gEvC_fr hE (hfr.pr 17 _ (by omega))) hT6 (lsv_16 _ hρ _) (fun k hk => by have := hbk k hk; omega) hEk.2.2.2.2.2.1) mw_551 mw_552 mw_553 mw_4 mw_554 sg_X3_isAsTold (by decide) (by decide) (Nat.le_refl _) (Nat.le_refl _) rfl rfl rfl (Nat.le_of_ble_eq_true rfl) dX4_study_45 48 rfl ?_
        have hso : ast (lsv (rho P E) (pu (et E) p i) (pb P)) (eb E) (el E) (eT E) = so (rho P E) (pu (et E) p i) (eb E) (el E) (eT E) := ast_so (ρ := rho P E) (eT E) hbk
        refine zg_ifb_eq hX dX4_study_48 63 (by decide) 51 rfl (fun h48 => ?_) (fun h48 => ?_)
        · rw [hso] at h48
          refine zg_iinc hX [(2, .int (zI ((i : Int) + 1))), (3, .int (zI (n6 (lsv (rho P E) (pu (et E) p i) (pb P))))), (0, .ref (q 25)), (1, .int (zI (p : Int)))] 3 rfl dX4_study_63 (by decide) rfl 66 rfl ?_
          refine zg_goto hX dX4_study_66 7 (by decide) ?_
          exact zg_lv _ [2, 3, 0] rfl (ih7 (i + 1) F1 (pu R1 17 (pu (R1 17) i (n6 (lsv (rho P E) (pu (et E) p i) (pb P))))) _ (by omega) (by omega) (by first | exact (hfr.pr 17 _ (by omega)).pf 19 _ (by omega) | exact hfr.pr 17 _ (by omega)) (by first | exact pu_eq _ _ _ | (rw [mk_skip (w := (fun x => so (rho P E) (pu (et E) p x) (eb E) (el E) (eT E))) (k := i) h48]; exact h19)) (fun j hj => by
              rw [pu_eq, pu_at]; split
              · next e => subst e; rfl
              · exact h17 j (by omega)) (by omega))
        · rw [hso] at h48
          refine zg_aload_n hX 1 rfl dX4_study_51 rfl 52 rfl ?_
          refine zg_dup hX rfl dX4_study_52 53 rfl ?_
          refine cg_25_5 hX mw_206 ((mk (fun x => so (rho P E) (pu (et E) p x) (eb E) (el E) (eT E)) i : Nat) : Int) h19 dX4_study_53 56 rfl ?_
          refine zg_iconst hX dX4_study_56 57 rfl ?_
          refine zg_iload_n hX 3 rfl dX4_study_57 rfl 58 rfl ?_
          refine zg_ishl hX ((2 ^ i : Nat) : Int) (zb_shl1 (by omega)) dX4_study_58 59 rfl ?_
          refine zg_ior hX ((mk (fun x => so (rho P E) (pu (et E) p x) (eb E) (el E) (eT E)) (i + 1) : Nat) : Int) (zb_top (w := (fun x => so (rho P E) (pu (et E) p x) (eb E) (el E) (eT E))) (by omega) h48) dX4_study_59 60 rfl ?_
          refine cp_25_5 hX mw_206 dX4_study_60 63 rfl ?_
          refine zg_iinc hX [(2, .int (zI ((i : Int) + 1))), (3, .int (zI (n6 (lsv (rho P E) (pu (et E) p i) (pb P))))), (0, .ref (q 25)), (1, .int (zI (p : Int)))] 3 rfl dX4_study_63 (by decide) rfl 66 rfl ?_
          refine zg_goto hX dX4_study_66 7 (by decide) ?_
          exact zg_lv _ [2, 3, 0] rfl (ih7 (i + 1) (pu F1 19 ((mk (fun x => so (rho P E) (pu (et E) p x) (eb E) (el E) (eT E)) (i + 1) : Nat) : Int)) (pu R1 17 (pu (R1 17) i (n6 (lsv (rho P E) (pu (et E) p i) (pb P))))) _ (by omega) (by omega) (by first | exact (hfr.pr 17 _ (by omega)).pf 19 _ (by omega) | exact hfr.pr 17 _ (by omega)) (by first | exact pu_eq _ _ _ | (rw [mk_skip (w := (fun x => so (rho P E) (pu (et E) p x) (eb E) (el E) (eT E))) (k := i) h48]; exact h19)) (fun j hj => by
              rw [pu_eq, pu_at]; split
              · next e => subst e; rfl
              · exact h17 j (by omega)) (by omega))
  exact zg_lv _ [1, 2, 0] rfl (L7 _ 0 (pu f 19 0) r _ (Nat.lt_succ_self _) (by omega) ((frS_rf f r).pf 19 0 (by omega)) (rfl) (fun j hj => absurd hj (Nat.not_lt_zero j)) (rfl))
-- Draughts.draw
set_option maxRecDepth 20000 in
theorem c_X1_draw (l : Launch) (D : va_G) (cI : ClassId) (q : Nat → Nat) (f : Nat → Int) (r : Nat → Nat → Int) (n s : Nat) (h22 : f 22 = (s : Int)) (hs : s < 2147483648) (hn : 0 < n ∧ n ≤ 6) : Cn l D cI yX1_draw cX1_draw 2 (some .int) 0 0 0 [.ref (q 28), .int (zI (n : Int))] (cW cI q f r) (pW (some (.int (zI ((sdn s / 65536 % n : Nat) : Int)))) (cW cI q (pu f 22 (sdn s : Int)) r)) := by
  refine Cn.of [(0, .ref (q 28)), (1, .int (zI (n : Int)))] (by decide +kernel) (Nat.le_of_ble_eq_true rfl) rfl (fun X hX hR => ?_)
  have hsd := sdn_lt s
  refine zg_aload_n hX 0 rfl dX1_draw_0 rfl 1 rfl ?_
  refine zg_ldc2 (a := 1103515245) hX mw_586 (by decide) dX1_draw_1 4 rfl ?_
  refine zg_aload_n hX 0 rfl dX1_draw_4 rfl 5 rfl ?_
  refine cg_28_5 hX mw_234 (s : Int) h22 dX1_draw_5 8 rfl ?_
  refine zg_i2l hX (by omega) dX1_draw_8 9 rfl ?_
  refine zg_lmul hX dX1_draw_9 10 rfl ?_
  refine zg_ldc2 (a := 12345) hX mw_587 (by decide) dX1_draw_10 13 rfl ?_
  refine zg_ladd hX dX1_draw_13 14 rfl ?_
  refine zg_ldc2 (a := 2147483647) hX mw_588 (by decide) dX1_draw_14 17 rfl ?_
  refine zg_land hX (sdn s : Int) (by rw [show (1103515245 * (s : Int) + 12345) = ((1103515245 * s + 12345 : Nat) : Int) by omega]; exact zL_low 2147483647 (k := 31) rfl) dX1_draw_17 18 rfl ?_
  refine zg_l2i hX dX1_draw_18 19 rfl ?_
  refine cp_28_5 hX mw_234 dX1_draw_19 22 rfl ?_
  refine zg_iload_n hX 1 rfl dX1_draw_22 rfl 23 rfl ?_
  refine zg_if_le hX (by omega) dX1_draw_23 38 (by decide) 26 rfl (fun h23 => ?_) (fun h23 => ?_)
  · omega
  · refine zg_aload_n hX 0 rfl dX1_draw_26 rfl 27 rfl ?_
    refine cg_28_5 hX mw_234 (sdn s : Int) rfl dX1_draw_27 30 rfl ?_
    refine zg_ldc (a := 65536) hX mw_589 (by decide) dX1_draw_30 32 rfl ?_
    refine zg_idiv hX ((sdn s / 65536 : Nat) : Int) (by decide) (pk_div (by omega) (by decide) (by decide)) dX1_draw_32 33 rfl ?_
    refine zg_iload_n hX 1 rfl dX1_draw_33 rfl 34 rfl ?_
    refine zg_irem hX ((sdn s / 65536 % n : Nat) : Int) (by rw [zI_z, zI_eq (by omega) (by omega)]; omega) (pk_rem (by omega) (by omega) (by omega)) dX1_draw_34 35 rfl ?_
    refine zg_goto hX dX1_draw_35 39 (by decide) ?_
    exact zg_iret hX hR (Nat.le_refl _) (Nat.le_refl _) rfl dX1_draw_39 (⟨rfl, rfl⟩)
-- Draughts.blowOnce
set_option maxRecDepth 20000 in
theorem c_X1_blowOnce (l : Launch) (D : va_G) (cI : ClassId) (q : Nat → Nat) (f : Nat → Int) (r : Nat → Nat → Int) (ρ : Ru) (t : Nat → Nat) (z : Nat × Nat × Nat) (hρ : RuOK ρ) (hc : cR f r ρ) (ht : tk ρ t) (h5 : f 5 = n6 t) (hn0 : 0 < rn ρ) (hz : z.1 < 2147483648) (h22 : f 22 = (z.1 : Int)) (h20 : f 20 = (z.2.1 : Int)) (h21 : f 21 = (z.2.2 : Int)) : Cn l D cI yX1_blowOnce cX1_blowOnce 5 none 3 0 0 [.ref (q 28)] (cW cI q f r) (pF (fun f1 => cW cI q f1 r) (fun v f1 => v = none ∧ (∀ j, j ≠ 20 → j ≠ 21 → j ≠ 22 → f1 j = f j) ∧ f1 22 = ((drB ρ t z (rb ρ)).1 : Int) ∧ f1 20 = ((drB ρ t z (rb ρ)).2.1 : Int) ∧ f1 21 = ((drB ρ t z (rb ρ)).2.2.1 : Int))) := by
  refine Cn.of [(0, .ref (q 28))] (by decide +kernel) (Nat.le_of_ble_eq_true rfl) rfl (fun X hX hR => ?_)
  have hl9 := hρ.1
  have hn4 := hρ.2.1
  have hb6 := hρ.2.2.2.1
  refine zg_aload_n hX 0 rfl dX1_blowOnce_0 rfl 1 rfl ?_
  refine cg_28_1 hX mw_228 dX1_blowOnce_1 4 rfl ?_
  refine cg_6_7 hX mw_98 (n6 t) h5 dX1_blowOnce_4 7 rfl ?_
  refine zg_istore_n hX [(1, .int (zI (n6 t))), (0, .ref (q 28))] dX1_blowOnce_7 rfl (by decide) rfl 8 rfl ?_
  refine zg_iconst hX dX1_blowOnce_8 9 rfl ?_
  refine zg_istore_n hX [(2, .int (zI 0)), (1, .int (zI (n6 t))), (0, .ref (q 28))] dX1_blowOnce_9 rfl (by decide) rfl 10 rfl ?_
  have L10 : ∀ (fuel : Nat) (i : Nat) (F1 : Nat → Int) (x10_1 : Int) (x10_2 : Int), (rb ρ - i < fuel) → (i ≤ rb ρ) → (∀ j, j ≠ 20 → j ≠ 21 → j ≠ 22 → F1 j = f j) → (F1 22 = ((drB ρ t z i).1 : Int)) → (F1 20 = ((drB ρ t z i).2.1 : Int)) → (F1 21 = ((drB ρ t z i).2.2.1 : Int)) → (tk ρ (drB ρ t z i).2.2.2) → ((drB ρ t z i).1 < 2147483648) → x10_1 = (n6 (drB ρ t z i).2.2.2) → x10_2 = (i : Int) → G X 5 0 0 (cW cI q F1 r) [(0, .ref (q 28)), (1, .int (zI x10_1)), (2, .int (zI x10_2))] 10 [] := by
    intro fuel
    induction fuel with
    | zero =>
      intro i F1 x10_1 x10_2 hm10
      exact absurd hm10 (Nat.not_lt_zero _)
    | succ fuel ih10 =>
      intro i F1 x10_1 x10_2 hm10 hi hF g22 g20 g21 htk hsd ex10_1 ex10_2
      subst ex10_1
      subst ex10_2
      refine zg_iload_n hX 2 rfl dX1_blowOnce_10 rfl 11 rfl ?_
      refine zg_aload_n hX 0 rfl dX1_blowOnce_11 rfl 12 rfl ?_
      refine cg_28_0 hX mw_227 dX1_blowOnce_12 15 rfl ?_
      refine cg_3_2 hX mw_57 (rb ρ : Int) ((hF 1 (by decide) (by decide) (by decide)).trans hc.1) dX1_blowOnce_15 18 rfl ?_
      refine zg_icmp_ge hX (by omega) (by omega) dX1_blowOnce_18 111 (by decide) 21 rfl (fun h18 => ?_) (fun h18 => ?_)
      · exact zg_vret hX hR (Nat.le_refl _) (Nat.le_refl _) rfl dX1_blowOnce_111 (⟨F1, rfl, rfl, hF, by rw [show rb ρ = i by omega]; exact g22, by rw [show rb ρ = i by omega]; exact g20, by rw [show rb ρ = i by omega]; exact g21⟩)
      · have hc0 : cR F1 r ρ := cR_f hc hF
        have hsd1 := sdn_lt (drB ρ t z i).1
        have hsd2 := sdn_lt (sdn (drB ρ t z i).1)
        have hpn : sdn (drB ρ t z i).1 / 65536 % rn ρ < rn ρ := Nat.mod_lt _ hn0
        refine zg_aload_n hX 0 rfl dX1_blowOnce_21 rfl 22 rfl ?_
        refine zg_aload_n hX 0 rfl dX1_blowOnce_22 rfl 23 rfl ?_
        refine cg_28_1 hX mw_228 dX1_blowOnce_23 26 rfl ?_
        refine cg_6_6 hX mw_93 (rn ρ : Int) ((hF 4 (by decide) (by decide) (by decide)).trans hc.2.2.1) dX1_blowOnce_26 29 rfl ?_
        refine zg_callV (As := [.int (zI (rn ρ : Int))]) (rest := []) (k0 := 28) (ci := 1) hX (c_X1_draw l D cI q F1 r (rn ρ) (drB ρ t z i).1 g22 hsd (by omega)) mw_582 mw_584 mw_s9 mw_9 mw_585 sg_X1_draw (by decide) (by decide) (Nat.le_refl _) (Nat.le_refl _) rfl rfl rfl (Nat.le_of_ble_eq_true rfl) dX1_blowOnce_29 32 rfl (fun v29 W29 hp29 => ?_)
        obtain ⟨rfl, rfl⟩ := hp29
        show G X 5 0 0 (cW cI q (pu F1 22 (sdn (drB ρ t z i).1 : Int)) r) [(0, .ref (q 28)), (1, .int (zI (n6 (drB ρ t z i).2.2.2))), (2, .int (zI (i : Int)))] 32 [.int (zI ((sdn (drB ρ t z i).1 / 65536 % rn ρ : Nat) : Int))]
        refine zg_istore_n hX [(3, .int (zI ((sdn (drB ρ t z i).1 / 65536 % rn ρ : Nat) : Int))), (0, .ref (q 28)), (1, .int (zI (n6 (drB ρ t z i).2.2.2))), (2, .int (zI (i : Int)))] dX1_blowOnce_32 rfl (by decide) rfl 33 rfl ?_
        refine zg_aload_n hX 1 rfl dX1_blowOnce_33 rfl 34 rfl ?_
        refine zg_bipush hX dX1_blowOnce_34 36 rfl (by decide) ?_
        refine zg_callV (As := [.int (zI 6)]) (rest := []) (k0 := 28) (ci := 1) hX (c_X1_draw l D cI q (pu F1 22 (sdn (drB ρ t z i).1 : Int)) r 6 (sdn (drB ρ t z i).1) rfl hsd1 (by omega)) mw_582 mw_584 mw_s9 mw_9 mw_585 sg_X1_draw (by decide) (by decide) (Nat.le_refl _) (Nat.le_refl _) rfl rfl rfl (Nat.le_of_ble_eq_true rfl) dX1_blowOnce_36 39 rfl (fun v36 W36 hp36 => ?_)
        obtain ⟨rfl, rfl⟩ := hp36
        show G X 5 0 0 (cW cI q (pu (pu F1 22 (sdn (drB ρ t z i).1 : Int)) 22 (sdn (sdn (drB ρ t z i).1) : Int)) r) [(3, .int (zI ((sdn (drB ρ t z i).1 / 65536 % rn ρ : Nat) : Int))), (0, .ref (q 28)), (1, .int (zI (n6 (drB ρ t z i).2.2.2))), (2, .int (zI (i : Int)))] 39 [.int (zI ((sdn (sdn (drB ρ t z i).1) / 65536 % 6 : Nat) : Int))]
        refine zg_if_ne hX (by omega) dX1_blowOnce_39 58 (by decide) 42 rfl (fun h39 => ?_) (fun h39 => ?_)
        · have hdr : ¬ sdn (sdn (drB ρ t z i).1) / 65536 % 6 = 0 := by omega
          have hT : drT ρ (drB ρ t z i).1 (drB ρ t z i).2.2.2 = (drB ρ t z i).2.2.2 := by unfold drT; rw [if_neg hdr]
          have hc2 : cR (pu (pu F1 22 (sdn (drB ρ t z i).1 : Int)) 22 (sdn (sdn (drB ρ t z i).1) : Int)) r ρ := hc0
          have htk2 := htk
          refine zg_aload_n hX 1 rfl dX1_blowOnce_58 rfl 59 rfl ?_
          refine cg_28_2 hX mw_229 dX1_blowOnce_59 62 rfl ?_
          refine zg_iload_n hX 3 rfl dX1_blowOnce_62 rfl 63 rfl ?_
          refine zg_iload_n hX 2 rfl dX1_blowOnce_63 rfl 64 rfl ?_
          refine zg_callVi (As := [.int (zI (i : Int)), .int (zI (n6 (drB ρ t z i).2.2.2))]) (rest := []) (k0 := 18) (ci := 2) hX (c_X2_sharesOf l D cI q (pu (pu F1 22 (sdn (drB ρ t z i).1 : Int)) 22 (sdn (sdn (drB ρ t z i).1) : Int)) r ρ ((drB ρ t z i).2.2.2) i hρ hc0 htk2 (by omega)) mw_591 mw_355 mw_356 mw_5 mw_357 sg_X2_sharesOf (by decide) (by decide) (Nat.le_refl _) (Nat.le_refl _) rfl rfl rfl (Nat.le_of_ble_eq_true rfl) dX1_blowOnce_64 67 rfl ?_
          have hsf := sh_facts ρ i ((drB ρ t z i).2.2.2) hρ
          have hlo := lo_le ρ i ((drB ρ t z i).2.2.2) hρ
          refine zg_istore hX [(4, .int (zI (n6 (sh ρ i ((drB ρ t z i).2.2.2))))), (3, .int (zI ((sdn (drB ρ t z i).1 / 65536 % rn ρ : Nat) : Int))), (0, .ref (q 28)), (1, .int (zI (n6 (drB ρ t z i).2.2.2))), (2, .int (zI (i : Int)))] dX1_blowOnce_67 (by decide) rfl 69 rfl ?_
          refine zg_aload_n hX 2 rfl dX1_blowOnce_69 rfl 70 rfl ?_
          refine zg_dup hX rfl dX1_blowOnce_70 71 rfl ?_
          refine cg_28_3 hX mw_230 ((drB ρ t z i).2.1 : Int) g20 dX1_blowOnce_71 74 rfl ?_
          refine zg_aload_n hX 2 rfl dX1_blowOnce_74 rfl 75 rfl ?_
          refine cg_28_0 hX mw_227 dX1_blowOnce_75 78 rfl ?_
          refine cg_3_1 hX mw_51 dX1_blowOnce_78 81 rfl ?_
          refine zg_iload_n hX 4 rfl dX1_blowOnce_81 rfl 82 rfl ?_
          refine ca_5 hX i (rp ρ i : Int) (by omega) (by omega) (hc.2.2.2.2.2.2.2 i (by omega)) dX1_blowOnce_82 83 rfl ?_
          refine zg_iload hX 0 rfl dX1_blowOnce_83 85 rfl ?_
          refine zg_callSi (As := [.int (zI (n6 (sh ρ i ((drB ρ t z i).2.2.2))))]) (rest := [.int (zI (rp ρ i : Int)), .int (zI ((drB ρ t z i).2.1 : Int)), .ref (q 28)]) hX (c_X5_sum l D cI _ (sh ρ i ((drB ρ t z i).2.2.2)) (fun p => by have := hsf.1 p; omega)) mw_592 mw_379 mw_12 mw_380 sg_X5_sum.2 (by decide) (by decide) (Nat.le_refl _) (Nat.le_refl _) rfl (Nat.le_of_ble_eq_true rfl) dX1_blowOnce_85 88 rfl ?_
          refine zg_isub hX dX1_blowOnce_88 89 rfl ?_
          have e89 : ((rp ρ i : Int) - (su (sh ρ i ((drB ρ t z i).2.2.2)) 6 : Int) : Int) = (lo ρ i ((drB ρ t z i).2.2.2) : Int) := by omega
          refine zg_to (lv2 := [(4, .int (zI (n6 (sh ρ i ((drB ρ t z i).2.2.2))))), (3, .int (zI ((sdn (drB ρ t z i).1 / 65536 % rn ρ : Nat) : Int))), (0, .ref (q 28)), (1, .int (zI (n6 (drB ρ t z i).2.2.2))), (2, .int (zI (i : Int)))]) (ws2 := (cW cI q (pu (pu F1 22 (sdn (drB ρ t z i).1 : Int)) 22 (sdn (sdn (drB ρ t z i).1) : Int)) r)) (st2 := [.int (zI (lo ρ i ((drB ρ t z i).2.2.2) : Int)), .int (zI ((drB ρ t z i).2.1 : Int)), .ref (q 28)]) ?_ rfl rfl (by rw [e89])
          refine zg_iadd hX dX1_blowOnce_89 90 rfl ?_
          refine cp_28_3 hX mw_230 dX1_blowOnce_90 93 rfl ?_
          refine zg_aload_n hX 2 rfl dX1_blowOnce_93 rfl 94 rfl ?_
          refine cg_28_2 hX mw_229 dX1_blowOnce_94 97 rfl ?_
          refine zg_iload_n hX 4 rfl dX1_blowOnce_97 rfl 98 rfl ?_
          refine zg_iload_n hX 3 rfl dX1_blowOnce_98 rfl 99 rfl ?_
          refine zg_iload hX 0 rfl dX1_blowOnce_99 101 rfl ?_
          refine zg_callVi (As := [.int (zI (i : Int)), .int (zI (n6 (drB ρ t z i).2.2.2)), .int (zI (n6 (sh ρ i ((drB ρ t z i).2.2.2))))]) (rest := []) (k0 := 18) (ci := 2) hX (c_X2_tiredBehind l D cI q (pu (pu (pu F1 22 (sdn (drB ρ t z i).1 : Int)) 22 (sdn (sdn (drB ρ t z i).1) : Int)) 20 (((drB ρ t z i).2.1 : Int) + (lo ρ i ((drB ρ t z i).2.2.2) : Int))) r ρ ((drB ρ t z i).2.2.2) i hρ hc0 htk2 (by omega)) mw_593 mw_383 mw_384 mw_5 mw_385 sg_X2_tiredBehind (by decide) (by decide) (Nat.le_refl _) (Nat.le_refl _) rfl rfl rfl (Nat.le_of_ble_eq_true rfl) dX1_blowOnce_101 104 rfl ?_
          refine zg_istore_n hX [(1, .int (zI (n6 (be ρ i ((drB ρ t z i).2.2.2))))), (4, .int (zI (n6 (sh ρ i ((drB ρ t z i).2.2.2))))), (3, .int (zI ((sdn (drB ρ t z i).1 / 65536 % rn ρ : Nat) : Int))), (0, .ref (q 28)), (2, .int (zI (i : Int)))] dX1_blowOnce_104 rfl (by decide) rfl 105 rfl ?_
          refine zg_iinc hX [(2, .int (zI ((i : Int) + 1))), (1, .int (zI (n6 (be ρ i ((drB ρ t z i).2.2.2))))), (4, .int (zI (n6 (sh ρ i ((drB ρ t z i).2.2.2))))), (3, .int (zI ((sdn (drB ρ t z i).1 / 65536 % rn ρ : Nat) : Int))), (0, .ref (q 28))] 4 rfl dX1_blowOnce_105 (by decide) rfl 108 rfl ?_
          refine zg_goto hX dX1_blowOnce_108 10 (by decide) ?_
          exact zg_lv _ [4, 1, 0] rfl (ih10 (i + 1) (pu (pu (pu F1 22 (sdn (drB ρ t z i).1 : Int)) 22 (sdn (sdn (drB ρ t z i).1) : Int)) 20 (((drB ρ t z i).2.1 : Int) + (lo ρ i ((drB ρ t z i).2.2.2) : Int))) _ _ (by omega) (by omega) (fun j a b c => by
              rw [pu_ne _ _ a]
              first | (rw [pu_ne _ _ b, pu_ne _ _ c, pu_ne _ _ c]; exact hF j a b c) | (rw [pu_ne _ _ c, pu_ne _ _ c]; exact hF j a b c)) (rfl) (by
              show _ = ((((drB ρ t z i).2.1 + lo ρ i (drT ρ (drB ρ t z i).1 (drB ρ t z i).2.2.2)) : Nat) : Int)
              rw [pu_eq, hT]; omega) (by
              show _ = ((((drB ρ t z i).2.2.1 + (if sdn (sdn (drB ρ t z i).1) / 65536 % 6 = 0 then 1 else 0)) : Nat) : Int)
              first | (rw [if_pos hdr]; rfl) | (rw [if_neg hdr]; exact g21)) (tk_be _ _ _) (sdn_lt _) (by
              show _ = n6 (be ρ i (drT ρ (drB ρ t z i).1 (drB ρ t z i).2.2.2))
              rw [hT]) (by omega))
        · have hdr : sdn (sdn (drB ρ t z i).1) / 65536 % 6 = 0 := by omega
          have hT : drT ρ (drB ρ t z i).1 (drB ρ t z i).2.2.2 = rf (drB ρ t z i).2.2.2 (sdn (drB ρ t z i).1 / 65536 % rn ρ) := by unfold drT; rw [if_pos hdr]
          have htk2 := tk_rf htk hpn
          refine zg_iload_n hX 2 rfl dX1_blowOnce_42 rfl 43 rfl ?_
          refine zg_iload_n hX 0 rfl dX1_blowOnce_43 rfl 44 rfl ?_
          refine zg_callSNi (As := [.int (zI (n6 (drB ρ t z i).2.2.2)), .int (zI ((sdn (drB ρ t z i).1 / 65536 % rn ρ : Nat) : Int))]) (rest := []) hX (c_X9_refreshed l D cI _ (drB ρ t z i).2.2.2 (sdn (drB ρ t z i).1 / 65536 % rn ρ) (tk_16 htk) (by omega)) (List.mem_of_getElem? (i := 7) rfl) mw_444 mw_1 mw_445 sg_X9_refreshed.2 (by decide) (by decide) (Nat.le_refl _) (Nat.le_refl _) rfl (Nat.le_of_ble_eq_true rfl) dX1_blowOnce_44 47 rfl ?_
          refine zg_istore_n hX [(1, .int (zI (n6 (rf (drB ρ t z i).2.2.2 (sdn (drB ρ t z i).1 / 65536 % rn ρ))))), (3, .int (zI ((sdn (drB ρ t z i).1 / 65536 % rn ρ : Nat) : Int))), (0, .ref (q 28)), (2, .int (zI (i : Int)))] dX1_blowOnce_47 rfl (by decide) rfl 48 rfl ?_
          refine zg_aload_n hX 2 rfl dX1_blowOnce_48 rfl 49 rfl ?_
          refine zg_dup hX rfl dX1_blowOnce_49 50 rfl ?_
          refine cg_28_4 hX mw_232 ((drB ρ t z i).2.2.1 : Int) g21 dX1_blowOnce_50 53 rfl ?_
          refine zg_iconst hX dX1_blowOnce_53 54 rfl ?_
          refine zg_iadd hX dX1_blowOnce_54 55 rfl ?_
          refine cp_28_4 hX mw_232 dX1_blowOnce_55 58 rfl ?_
          refine zg_aload_n hX 2 rfl dX1_blowOnce_58 rfl 59 rfl ?_
          refine cg_28_2 hX mw_229 dX1_blowOnce_59 62 rfl ?_
          refine zg_iload_n hX 3 rfl dX1_blowOnce_62 rfl 63 rfl ?_
          refine zg_iload_n hX 0 rfl dX1_blowOnce_63 rfl 64 rfl ?_
          refine zg_callVi (As := [.int (zI (i : Int)), .int (zI (n6 (rf (drB ρ t z i).2.2.2 (sdn (drB ρ t z i).1 / 65536 % rn ρ))))]) (rest := []) (k0 := 18) (ci := 2) hX (c_X2_sharesOf l D cI q (pu (pu (pu F1 22 (sdn (drB ρ t z i).1 : Int)) 22 (sdn (sdn (drB ρ t z i).1) : Int)) 21 (((drB ρ t z i).2.2.1 : Int) + 1)) r ρ (rf (drB ρ t z i).2.2.2 (sdn (drB ρ t z i).1 / 65536 % rn ρ)) i hρ hc0 htk2 (by omega)) mw_591 mw_355 mw_356 mw_5 mw_357 sg_X2_sharesOf (by decide) (by decide) (Nat.le_refl _) (Nat.le_refl _) rfl rfl rfl (Nat.le_of_ble_eq_true rfl) dX1_blowOnce_64 67 rfl ?_
          have hsf := sh_facts ρ i (rf (drB ρ t z i).2.2.2 (sdn (drB ρ t z i).1 / 65536 % rn ρ)) hρ
          have hlo := lo_le ρ i (rf (drB ρ t z i).2.2.2 (sdn (drB ρ t z i).1 / 65536 % rn ρ)) hρ
          refine zg_istore hX [(4, .int (zI (n6 (sh ρ i (rf (drB ρ t z i).2.2.2 (sdn (drB ρ t z i).1 / 65536 % rn ρ)))))), (1, .int (zI (n6 (rf (drB ρ t z i).2.2.2 (sdn (drB ρ t z i).1 / 65536 % rn ρ))))), (3, .int (zI ((sdn (drB ρ t z i).1 / 65536 % rn ρ : Nat) : Int))), (0, .ref (q 28)), (2, .int (zI (i : Int)))] dX1_blowOnce_67 (by decide) rfl 69 rfl ?_
          refine zg_aload_n hX 3 rfl dX1_blowOnce_69 rfl 70 rfl ?_
          refine zg_dup hX rfl dX1_blowOnce_70 71 rfl ?_
          refine cg_28_3 hX mw_230 ((drB ρ t z i).2.1 : Int) g20 dX1_blowOnce_71 74 rfl ?_
          refine zg_aload_n hX 3 rfl dX1_blowOnce_74 rfl 75 rfl ?_
          refine cg_28_0 hX mw_227 dX1_blowOnce_75 78 rfl ?_
          refine cg_3_1 hX mw_51 dX1_blowOnce_78 81 rfl ?_
          refine zg_iload_n hX 4 rfl dX1_blowOnce_81 rfl 82 rfl ?_
          refine ca_5 hX i (rp ρ i : Int) (by omega) (by omega) (hc.2.2.2.2.2.2.2 i (by omega)) dX1_blowOnce_82 83 rfl ?_
          refine zg_iload hX 0 rfl dX1_blowOnce_83 85 rfl ?_
          refine zg_callSi (As := [.int (zI (n6 (sh ρ i (rf (drB ρ t z i).2.2.2 (sdn (drB ρ t z i).1 / 65536 % rn ρ)))))]) (rest := [.int (zI (rp ρ i : Int)), .int (zI ((drB ρ t z i).2.1 : Int)), .ref (q 28)]) hX (c_X5_sum l D cI _ (sh ρ i (rf (drB ρ t z i).2.2.2 (sdn (drB ρ t z i).1 / 65536 % rn ρ))) (fun p => by have := hsf.1 p; omega)) mw_592 mw_379 mw_12 mw_380 sg_X5_sum.2 (by decide) (by decide) (Nat.le_refl _) (Nat.le_refl _) rfl (Nat.le_of_ble_eq_true rfl) dX1_blowOnce_85 88 rfl ?_
          refine zg_isub hX dX1_blowOnce_88 89 rfl ?_
          have e89 : ((rp ρ i : Int) - (su (sh ρ i (rf (drB ρ t z i).2.2.2 (sdn (drB ρ t z i).1 / 65536 % rn ρ))) 6 : Int) : Int) = (lo ρ i (rf (drB ρ t z i).2.2.2 (sdn (drB ρ t z i).1 / 65536 % rn ρ)) : Int) := by omega
          refine zg_to (lv2 := [(4, .int (zI (n6 (sh ρ i (rf (drB ρ t z i).2.2.2 (sdn (drB ρ t z i).1 / 65536 % rn ρ)))))), (1, .int (zI (n6 (rf (drB ρ t z i).2.2.2 (sdn (drB ρ t z i).1 / 65536 % rn ρ))))), (3, .int (zI ((sdn (drB ρ t z i).1 / 65536 % rn ρ : Nat) : Int))), (0, .ref (q 28)), (2, .int (zI (i : Int)))]) (ws2 := (cW cI q (pu (pu (pu F1 22 (sdn (drB ρ t z i).1 : Int)) 22 (sdn (sdn (drB ρ t z i).1) : Int)) 21 (((drB ρ t z i).2.2.1 : Int) + 1)) r)) (st2 := [.int (zI (lo ρ i (rf (drB ρ t z i).2.2.2 (sdn (drB ρ t z i).1 / 65536 % rn ρ)) : Int)), .int (zI ((drB ρ t z i).2.1 : Int)), .ref (q 28)]) ?_ rfl rfl (by rw [e89])
          refine zg_iadd hX dX1_blowOnce_89 90 rfl ?_
          refine cp_28_3 hX mw_230 dX1_blowOnce_90 93 rfl ?_
          refine zg_aload_n hX 3 rfl dX1_blowOnce_93 rfl 94 rfl ?_
          refine cg_28_2 hX mw_229 dX1_blowOnce_94 97 rfl ?_
          refine zg_iload_n hX 4 rfl dX1_blowOnce_97 rfl 98 rfl ?_
          refine zg_iload_n hX 1 rfl dX1_blowOnce_98 rfl 99 rfl ?_
          refine zg_iload hX 0 rfl dX1_blowOnce_99 101 rfl ?_
          refine zg_callVi (As := [.int (zI (i : Int)), .int (zI (n6 (rf (drB ρ t z i).2.2.2 (sdn (drB ρ t z i).1 / 65536 % rn ρ)))), .int (zI (n6 (sh ρ i (rf (drB ρ t z i).2.2.2 (sdn (drB ρ t z i).1 / 65536 % rn ρ)))))]) (rest := []) (k0 := 18) (ci := 2) hX (c_X2_tiredBehind l D cI q (pu (pu (pu (pu F1 22 (sdn (drB ρ t z i).1 : Int)) 22 (sdn (sdn (drB ρ t z i).1) : Int)) 21 (((drB ρ t z i).2.2.1 : Int) + 1)) 20 (((drB ρ t z i).2.1 : Int) + (lo ρ i (rf (drB ρ t z i).2.2.2 (sdn (drB ρ t z i).1 / 65536 % rn ρ)) : Int))) r ρ (rf (drB ρ t z i).2.2.2 (sdn (drB ρ t z i).1 / 65536 % rn ρ)) i hρ hc0 htk2 (by omega)) mw_593 mw_383 mw_384 mw_5 mw_385 sg_X2_tiredBehind (by decide) (by decide) (Nat.le_refl _) (Nat.le_refl _) rfl rfl rfl (Nat.le_of_ble_eq_true rfl) dX1_blowOnce_101 104 rfl ?_
          refine zg_istore_n hX [(1, .int (zI (n6 (be ρ i (rf (drB ρ t z i).2.2.2 (sdn (drB ρ t z i).1 / 65536 % rn ρ)))))), (4, .int (zI (n6 (sh ρ i (rf (drB ρ t z i).2.2.2 (sdn (drB ρ t z i).1 / 65536 % rn ρ)))))), (3, .int (zI ((sdn (drB ρ t z i).1 / 65536 % rn ρ : Nat) : Int))), (0, .ref (q 28)), (2, .int (zI (i : Int)))] dX1_blowOnce_104 rfl (by decide) rfl 105 rfl ?_
          refine zg_iinc hX [(2, .int (zI ((i : Int) + 1))), (1, .int (zI (n6 (be ρ i (rf (drB ρ t z i).2.2.2 (sdn (drB ρ t z i).1 / 65536 % rn ρ)))))), (4, .int (zI (n6 (sh ρ i (rf (drB ρ t z i).2.2.2 (sdn (drB ρ t z i).1 / 65536 % rn ρ)))))), (3, .int (zI ((sdn (drB ρ t z i).1 / 65536 % rn ρ : Nat) : Int))), (0, .ref (q 28))] 4 rfl dX1_blowOnce_105 (by decide) rfl 108 rfl ?_
          refine zg_goto hX dX1_blowOnce_108 10 (by decide) ?_
          exact zg_lv _ [4, 1, 0] rfl (ih10 (i + 1) (pu (pu (pu (pu F1 22 (sdn (drB ρ t z i).1 : Int)) 22 (sdn (sdn (drB ρ t z i).1) : Int)) 21 (((drB ρ t z i).2.2.1 : Int) + 1)) 20 (((drB ρ t z i).2.1 : Int) + (lo ρ i (rf (drB ρ t z i).2.2.2 (sdn (drB ρ t z i).1 / 65536 % rn ρ)) : Int))) _ _ (by omega) (by omega) (fun j a b c => by
              rw [pu_ne _ _ a]
              first | (rw [pu_ne _ _ b, pu_ne _ _ c, pu_ne _ _ c]; exact hF j a b c) | (rw [pu_ne _ _ c, pu_ne _ _ c]; exact hF j a b c)) (rfl) (by
              show _ = ((((drB ρ t z i).2.1 + lo ρ i (drT ρ (drB ρ t z i).1 (drB ρ t z i).2.2.2)) : Nat) : Int)
              rw [pu_eq, hT]; omega) (by
              show _ = ((((drB ρ t z i).2.2.1 + (if sdn (sdn (drB ρ t z i).1) / 65536 % 6 = 0 then 1 else 0)) : Nat) : Int)
              first | (rw [if_pos hdr]; rfl) | (rw [if_neg hdr]; exact g21)) (tk_be _ _ _) (sdn_lt _) (by
              show _ = n6 (be ρ i (drT ρ (drB ρ t z i).1 (drB ρ t z i).2.2.2))
              rw [hT]) (by omega))
  exact zg_lv _ [2, 1, 0] rfl (L10 _ 0 f _ _ (Nat.lt_succ_self _) (by omega) (fun _ _ _ _ => rfl) (h22) (h20) (h21) (ht) (hz) (rfl) (rfl))
-- Draughts.blow
set_option maxRecDepth 20000 in
theorem c_X1_blow (l : Launch) (D : va_G) (cI : ClassId) (q : Nat → Nat) (f : Nat → Int) (r : Nat → Nat → Int) (ρ : Ru) (t : Nat → Nat) (n s : Nat) (hρ : RuOK ρ) (hc : cR f r ρ) (ht : tk ρ t) (h5 : f 5 = n6 t) (hn0 : 0 < rn ρ) (hn : n ≤ 30) (hs : s < 2147483648) : Cn l D cI yX1_blow cX1_blow 4 none 4 0 0 [.ref (q 28), .int (zI (n : Int)), .int (zI (s : Int))] (cW cI q f r) (pF (fun f1 => cW cI q f1 r) (fun v f1 => v = none ∧ (∀ j, j ≠ 20 → j ≠ 21 → j ≠ 22 → f1 j = f j) ∧ f1 22 = ((drN ρ t s n).1 : Int) ∧ f1 20 = ((drN ρ t s n).2.1 : Int) ∧ f1 21 = ((drN ρ t s n).2.2 : Int))) := by
  refine Cn.of [(0, .ref (q 28)), (1, .int (zI (n : Int))), (2, .int (zI (s : Int)))] (by decide +kernel) (Nat.le_of_ble_eq_true rfl) rfl (fun X hX hR => ?_)
  have hl9 := hρ.1
  have hn4 := hρ.2.1
  have hb6 := hρ.2.2.2.1
  refine zg_aload_n hX 0 rfl dX1_blow_0 rfl 1 rfl ?_
  refine zg_iconst hX dX1_blow_1 2 rfl ?_
  refine cp_28_3 hX mw_230 dX1_blow_2 5 rfl ?_
  refine zg_aload_n hX 0 rfl dX1_blow_5 rfl 6 rfl ?_
  refine zg_iconst hX dX1_blow_6 7 rfl ?_
  refine cp_28_4 hX mw_232 dX1_blow_7 10 rfl ?_
  refine zg_aload_n hX 0 rfl dX1_blow_10 rfl 11 rfl ?_
  refine zg_iload_n hX 2 rfl dX1_blow_11 rfl 12 rfl ?_
  refine cp_28_5 hX mw_234 dX1_blow_12 15 rfl ?_
  refine zg_iconst hX dX1_blow_15 16 rfl ?_
  refine zg_istore_n hX [(3, .int (zI 0)), (0, .ref (q 28)), (1, .int (zI (n : Int))), (2, .int (zI (s : Int)))] dX1_blow_16 rfl (by decide) rfl 17 rfl ?_
  have L17 : ∀ (fuel : Nat) (i : Nat) (F1 : Nat → Int) (x17_3 : Int), (n - i < fuel) → (i ≤ n) → (∀ j, j ≠ 20 → j ≠ 21 → j ≠ 22 → F1 j = f j) → (F1 22 = ((drN ρ t s i).1 : Int)) → (F1 20 = ((drN ρ t s i).2.1 : Int)) → (F1 21 = ((drN ρ t s i).2.2 : Int)) → ((drN ρ t s i).1 < 2147483648) → x17_3 = (i : Int) → G X 4 0 0 (cW cI q F1 r) [(0, .ref (q 28)), (1, .int (zI (n : Int))), (2, .int (zI (s : Int))), (3, .int (zI x17_3))] 17 [] := by
    intro fuel
    induction fuel with
    | zero =>
      intro i F1 x17_3 hm17
      exact absurd hm17 (Nat.not_lt_zero _)
    | succ fuel ih17 =>
      intro i F1 x17_3 hm17 hi hF g22 g20 g21 hsd ex17_3
      subst ex17_3
      refine zg_iload_n hX 3 rfl dX1_blow_17 rfl 18 rfl ?_
      refine zg_iload_n hX 1 rfl dX1_blow_18 rfl 19 rfl ?_
      refine zg_icmp_ge hX (by omega) (by omega) dX1_blow_19 32 (by decide) 22 rfl (fun h19 => ?_) (fun h19 => ?_)
      · exact zg_vret hX hR (Nat.le_refl _) (Nat.le_refl _) rfl dX1_blow_32 (⟨F1, rfl, rfl, hF, by rw [show n = i by omega]; exact g22, by rw [show n = i by omega]; exact g20, by rw [show n = i by omega]; exact g21⟩)
      · refine zg_aload_n hX 0 rfl dX1_blow_22 rfl 23 rfl ?_
        refine zg_callV (As := []) (rest := []) (k0 := 28) (ci := 1) hX (c_X1_blowOnce l D cI q F1 r ρ t (drN ρ t s i) hρ (cR_f hc hF) ht ((hF 5 (by decide) (by decide) (by decide)).trans h5) hn0 hsd g22 g20 g21) mw_578 mw_580 mw_s8 mw_9 mw_581 sg_X1_blowOnce (by decide) (by decide) (Nat.le_refl _) (Nat.le_refl _) rfl rfl rfl (Nat.le_of_ble_eq_true rfl) dX1_blow_23 26 rfl (fun v23 W23 hp23 => ?_)
        obtain ⟨F23, rfl, rfl, hF23, k22, k20, k21⟩ := hp23
        show G X 4 0 0 (cW cI q F23 r) [(0, .ref (q 28)), (1, .int (zI (n : Int))), (2, .int (zI (s : Int))), (3, .int (zI (i : Int)))] 26 []
        refine zg_iinc hX [(3, .int (zI ((i : Int) + 1))), (0, .ref (q 28)), (1, .int (zI (n : Int))), (2, .int (zI (s : Int)))] 3 rfl dX1_blow_26 (by decide) rfl 29 rfl ?_
        refine zg_goto hX dX1_blow_29 17 (by decide) ?_
        exact zg_lv _ [1, 2, 3, 0] rfl (ih17 (i + 1) F23 _ (by omega) (by omega) (fun j a b c => (hF23 j a b c).trans (hF j a b c)) (k22) (k20) (k21) (drB_lt hsd _) (by omega))
  exact zg_lv _ [1, 2, 3, 0] rfl (L17 _ 0 (pu (pu (pu f 20 0) 21 0) 22 (s : Int)) _ (Nat.lt_succ_self _) (by omega) (fun j a b c => by rw [pu_ne _ _ c, pu_ne _ _ b, pu_ne _ _ a]) (rfl) (rfl) (rfl) (hs) (rfl))
