/-- what a part of the search for cups leaves: only its own numbers and rows, what was tried ahead of bar b, the best now -/
def cupQ (cI : ClassId) (q : Nat → Nat) (f : Nat → Int) (r : Nat → Nat → Int) (ρ : Ru) (b : Nat) (z : Nat × (Nat → Nat)) : Option Value → va_W → Prop :=
  pC (cW cI q) (fun v f1 r1 => v = none ∧ frS f f1 r r1 ∧ (∀ j, j < b → r1 13 j = r 13 j) ∧ f1 17 = (z.1 : Int) ∧ (z.1 ≤ 6 → ∀ j, j < rb ρ → r1 14 j = (z.2 j : Int) - 1))
/-- tryFrom's contract, with k bars left -/
def TF (l : Launch) (D : va_G) (cI : ClassId) (q : Nat → Nat) (k : Nat) : Prop := ∀ (f : Nat → Int) (r : Nat → Nat → Int) (ρ : Ru) (b : Nat) (t : Nat → Nat) (u : Nat) (row : Nat → Nat) (z : Nat × (Nat → Nat)), RuOK ρ → cR f r ρ → tk ρ t → f 17 = (z.1 : Int) → z.1 ≤ 7 → u ≤ b → (z.1 ≤ 6 → ∀ j, j < rb ρ → r 14 j = (z.2 j : Int) - 1) → b + k = rb ρ → (∀ j, j < b → r 13 j = (row j : Int) - 1) →
  Cn l D cI yX0_tryFrom cX0_tryFrom 5 none (2 * k + 3) 0 0 [.ref (q 19), .int (zI (b : Int)), .int (zI (n6 t)), .int (zI (u : Int))] (cW cI q f r) (cupQ cI q f r ρ b (cupF ρ k b t u row z))
/-- tryBar's, with k bars left behind it -/
def TB (l : Launch) (D : va_G) (cI : ClassId) (q : Nat → Nat) (k : Nat) : Prop := ∀ (f : Nat → Int) (r : Nat → Nat → Int) (ρ : Ru) (b : Nat) (t : Nat → Nat) (u : Nat) (row : Nat → Nat) (z : Nat × (Nat → Nat)), RuOK ρ → cR f r ρ → tk ρ t → f 17 = (z.1 : Int) → z.1 ≤ 7 → u ≤ b + 1 → (z.1 ≤ 6 → ∀ j, j < rb ρ → r 14 j = (z.2 j : Int) - 1) → b + k + 1 = rb ρ → (∀ j, j < b + 1 → r 13 j = (row j : Int) - 1) →
  Cn l D cI yX0_tryBar cX0_tryBar 5 none (2 * k + 4) 0 0 [.ref (q 19), .int (zI (b : Int)), .int (zI (n6 t)), .int (zI (u : Int))] (cW cI q f r) (cupQ cI q f r ρ (b + 1) (if lo ρ b t = 0 then cupF ρ k (b + 1) (be ρ b t) u row z else z))
def ordQ (cI : ClassId) (q : Nat → Nat) (f : Nat → Int) (r : Nat → Nat → Int) (ρ : Ru) (j0 : Nat) (z : Nat × (Nat → Nat)) : Option Value → va_W → Prop :=
  pC (cW cI q) (fun v f1 r1 => v = none ∧ frS f f1 r r1 ∧ (∀ j, j < j0 → r1 15 j = r 15 j) ∧ f1 18 = (z.1 : Int) ∧ (z.1 ≤ 24 → ∀ j, j < rb ρ → r1 16 j = (z.2 j : Int)))
def TO (l : Launch) (D : va_G) (cI : ClassId) (q : Nat → Nat) (k : Nat) : Prop := ∀ (f : Nat → Int) (r : Nat → Nat → Int) (ρ : Ru) (j0 : Nat) (us : Nat → Bool) (t : Nat → Nat) (lost : Nat) (row : Nat → Nat) (z : Nat × (Nat → Nat)), RuOK ρ → cR f r ρ → tk ρ t → f 18 = (z.1 : Int) → z.1 ≤ 25 → lost ≤ 4 * j0 → (z.1 ≤ 24 → ∀ j, j < rb ρ → r 16 j = (z.2 j : Int)) → j0 + k = rb ρ → (∀ j, j < j0 → r 15 j = (row j : Int)) →
  Cn l D cI yX6_tryFrom cX6_tryFrom 9 none (k + 3) 0 0 [.ref (q 22), .int (zI (j0 : Int)), .int (zI ((mk us 6 : Nat) : Int)), .int (zI (n6 t)), .int (zI (lost : Int))] (cW cI q f r) (ordQ cI q f r ρ j0 (ordF ρ k j0 us t lost row z))
theorem sg_X0_tryBar : yX0_tryBar.cls = RX0 ∧ yX0_tryBar.cls ≠ "java/lang/invoke/MethodHandle" ∧ yX0_tryBar.cls ≠ "java/lang/invoke/VarHandle" ∧ (parseMethodDescriptor yX0_tryBar.desc).map (fun d => d.parameters.length) = some 3 := by decide +kernel
theorem sg_X0_tryFrom : yX0_tryFrom.cls = RX0 ∧ yX0_tryFrom.cls ≠ "java/lang/invoke/MethodHandle" ∧ yX0_tryFrom.cls ≠ "java/lang/invoke/VarHandle" ∧ (parseMethodDescriptor yX0_tryFrom.desc).map (fun d => d.parameters.length) = some 3 := by decide +kernel
theorem sg_X0_run : yX0_run.cls = RX0 ∧ yX0_run.cls ≠ "java/lang/invoke/MethodHandle" ∧ yX0_run.cls ≠ "java/lang/invoke/VarHandle" ∧ (parseMethodDescriptor yX0_run.desc).map (fun d => d.parameters.length) = some 0 := by decide +kernel
theorem sg_X0_fewest : yX0_fewest.cls = RX0 ∧ yX0_fewest.cls ≠ "java/lang/invoke/MethodHandle" ∧ yX0_fewest.cls ≠ "java/lang/invoke/VarHandle" ∧ (parseMethodDescriptor yX0_fewest.desc).map (fun d => d.parameters.length) = some 0 := by decide +kernel
theorem sg_X0_whomAheadOf : yX0_whomAheadOf.cls = RX0 ∧ yX0_whomAheadOf.cls ≠ "java/lang/invoke/MethodHandle" ∧ yX0_whomAheadOf.cls ≠ "java/lang/invoke/VarHandle" ∧ (parseMethodDescriptor yX0_whomAheadOf.desc).map (fun d => d.parameters.length) = some 1 := by decide +kernel
theorem sg_X6_tryFrom : yX6_tryFrom.cls = RX6 ∧ yX6_tryFrom.cls ≠ "java/lang/invoke/MethodHandle" ∧ yX6_tryFrom.cls ≠ "java/lang/invoke/VarHandle" ∧ (parseMethodDescriptor yX6_tryFrom.desc).map (fun d => d.parameters.length) = some 4 := by decide +kernel
theorem sg_X6_run : yX6_run.cls = RX6 ∧ yX6_run.cls ≠ "java/lang/invoke/MethodHandle" ∧ yX6_run.cls ≠ "java/lang/invoke/VarHandle" ∧ (parseMethodDescriptor yX6_run.desc).map (fun d => d.parameters.length) = some 1 := by decide +kernel
theorem sg_X6_barAt : yX6_barAt.cls = RX6 ∧ yX6_barAt.cls ≠ "java/lang/invoke/MethodHandle" ∧ yX6_barAt.cls ≠ "java/lang/invoke/VarHandle" ∧ (parseMethodDescriptor yX6_barAt.desc).map (fun d => d.parameters.length) = some 1 := by decide +kernel
-- CupSearch.tryBar
set_option maxRecDepth 20000 in
theorem c_X0_tryBar (l : Launch) (D : va_G) (cI : ClassId) (q : Nat → Nat) (f : Nat → Int) (r : Nat → Nat → Int) (ρ : Ru) (b : Nat) (t : Nat → Nat) (u : Nat) (row : Nat → Nat) (z : Nat × (Nat → Nat)) (k : Nat) (hF : TF l D cI q k) (hρ : RuOK ρ) (hc : cR f r ρ) (ht : tk ρ t) (h17 : f 17 = (z.1 : Int)) (hz7 : z.1 ≤ 7) (hu : u ≤ b + 1) (hz : z.1 ≤ 6 → ∀ j, j < rb ρ → r 14 j = (z.2 j : Int) - 1) (hbk : b + k + 1 = rb ρ) (htr : ∀ j, j < b + 1 → r 13 j = (row j : Int) - 1) : Cn l D cI yX0_tryBar cX0_tryBar 5 none (2 * k + 4) 0 0 [.ref (q 19), .int (zI (b : Int)), .int (zI (n6 t)), .int (zI (u : Int))] (cW cI q f r) (cupQ cI q f r ρ (b + 1) (if lo ρ b t = 0 then cupF ρ k (b + 1) (be ρ b t) u row z else z)) := by
  refine Cn.of [(0, .ref (q 19)), (1, .int (zI (b : Int))), (2, .int (zI (n6 t))), (3, .int (zI (u : Int)))] (by decide +kernel) (Nat.le_of_ble_eq_true rfl) rfl (fun X hX hR => ?_)
  have hl9 := hρ.1
  have hn4 := hρ.2.1
  have hb6 := hρ.2.2.2.1
  have hsf := sh_facts ρ b t hρ
  have hpb := hρ.2.2.2.2.2 b
  refine zg_aload_n hX 0 rfl dX0_tryBar_0 rfl 1 rfl ?_
  refine cg_19_2 hX mw_155 dX0_tryBar_1 4 rfl ?_
  refine zg_iload_n hX 1 rfl dX0_tryBar_4 rfl 5 rfl ?_
  refine zg_iload_n hX 2 rfl dX0_tryBar_5 rfl 6 rfl ?_
  refine zg_callVi (As := [.int (zI (b : Int)), .int (zI (n6 t))]) (rest := []) (k0 := 18) (ci := 2) hX (c_X2_sharesOf l D cI q f r ρ t b hρ hc ht (by omega)) mw_495 mw_355 mw_356 mw_5 mw_357 sg_X2_sharesOf (by omega) (by decide) (Nat.le_refl _) (Nat.le_refl _) rfl rfl rfl (Nat.le_of_ble_eq_true rfl) dX0_tryBar_6 9 rfl ?_
  refine zg_istore hX [(4, .int (zI (n6 (sh ρ b t)))), (0, .ref (q 19)), (1, .int (zI (b : Int))), (2, .int (zI (n6 t))), (3, .int (zI (u : Int)))] dX0_tryBar_9 (by decide) rfl 11 rfl ?_
  refine zg_iload hX 0 rfl dX0_tryBar_11 13 rfl ?_
  refine zg_callSi (As := [.int (zI (n6 (sh ρ b t)))]) (rest := []) hX (c_X5_sum l D cI _ (sh ρ b t) (fun p => by have := hsf.1 p; omega)) mw_496 mw_379 mw_12 mw_380 sg_X5_sum.2 (by omega) (by decide) (Nat.le_refl _) (Nat.le_refl _) rfl (Nat.le_of_ble_eq_true rfl) dX0_tryBar_13 16 rfl ?_
  refine zg_aload_n hX 1 rfl dX0_tryBar_16 rfl 17 rfl ?_
  refine cg_19_0 hX mw_153 dX0_tryBar_17 20 rfl ?_
  refine cg_3_1 hX mw_54 dX0_tryBar_20 23 rfl ?_
  refine zg_iload_n hX 2 rfl dX0_tryBar_23 rfl 24 rfl ?_
  refine ca_5 hX b (rp ρ b : Int) (by omega) (by omega) (hc.2.2.2.2.2.2.2 b (by omega)) dX0_tryBar_24 25 rfl ?_
  refine zg_icmp_ne hX (by omega) (by omega) dX0_tryBar_25 47 (by decide) 28 rfl (fun h25 => ?_) (fun h25 => ?_)
  · have hl0 : ¬ lo ρ b t = 0 := by omega
    exact zg_vret hX hR (Nat.le_refl _) (Nat.le_refl _) rfl dX0_tryBar_47 (by first | exact (by rw [if_pos hl0]; exact ⟨F44, R44, rfl, rfl, hfr, htt, h44, hzz⟩) | exact (by rw [if_neg hl0]; exact ⟨f, r, rfl, rfl, frS_rf f r, fun _ _ => rfl, h17, hz⟩))
  · have hl0 : lo ρ b t = 0 := by omega
    refine zg_aload_n hX 1 rfl dX0_tryBar_28 rfl 29 rfl ?_
    refine zg_iload_n hX 2 rfl dX0_tryBar_29 rfl 30 rfl ?_
    refine zg_iconst hX dX0_tryBar_30 31 rfl ?_
    refine zg_iadd hX dX0_tryBar_31 32 rfl ?_
    refine zg_aload_n hX 1 rfl dX0_tryBar_32 rfl 33 rfl ?_
    refine cg_19_2 hX mw_155 dX0_tryBar_33 36 rfl ?_
    refine zg_iload_n hX 2 rfl dX0_tryBar_36 rfl 37 rfl ?_
    refine zg_iload_n hX 3 rfl dX0_tryBar_37 rfl 38 rfl ?_
    refine zg_iload hX 0 rfl dX0_tryBar_38 40 rfl ?_
    refine zg_callVi (As := [.int (zI (b : Int)), .int (zI (n6 t)), .int (zI (n6 (sh ρ b t)))]) (rest := [.int (zI ((b : Int) + 1)), .ref (q 19)]) (k0 := 18) (ci := 2) hX (c_X2_tiredBehind l D cI q f r ρ t b hρ hc ht (by omega)) mw_497 mw_383 mw_384 mw_5 mw_385 sg_X2_tiredBehind (by omega) (by decide) (Nat.le_refl _) (Nat.le_refl _) rfl rfl rfl (Nat.le_of_ble_eq_true rfl) dX0_tryBar_40 43 rfl ?_
    refine zg_iload_n hX 4 rfl dX0_tryBar_43 rfl 44 rfl ?_
    refine zg_callV (As := [.int (zI ((b : Int) + 1)), .int (zI (n6 (be ρ b t))), .int (zI (u : Int))]) (rest := []) (k0 := 19) (ci := 0) hX (hF f r ρ (b + 1) (be ρ b t) u row z hρ hc (tk_be _ _ _) h17 hz7 (by omega) hz (by omega) htr) mw_483 mw_485 mw_s4 mw_6 mw_486 sg_X0_tryFrom (by omega) (by decide) (Nat.le_refl _) (Nat.le_refl _) rfl rfl rfl (Nat.le_of_ble_eq_true rfl) dX0_tryBar_44 47 rfl (fun v44 W44 hp44 => ?_)
    obtain ⟨F44, R44, rfl, rfl, hfr, htt, h44, hzz⟩ := hp44
    show G X 5 0 0 (cW cI q F44 R44) [(4, .int (zI (n6 (sh ρ b t)))), (0, .ref (q 19)), (1, .int (zI (b : Int))), (2, .int (zI (n6 t))), (3, .int (zI (u : Int)))] 47 []
    exact zg_vret hX hR (Nat.le_refl _) (Nat.le_refl _) rfl dX0_tryBar_47 (by first | exact (by rw [if_pos hl0]; exact ⟨F44, R44, rfl, rfl, hfr, htt, h44, hzz⟩) | exact (by rw [if_neg hl0]; exact ⟨f, r, rfl, rfl, frS_rf f r, fun _ _ => rfl, h17, hz⟩))
-- CupSearch.tryFrom
set_option maxRecDepth 20000 in
theorem c_X0_tryFrom (l : Launch) (D : va_G) (cI : ClassId) (q : Nat → Nat) (f : Nat → Int) (r : Nat → Nat → Int) (ρ : Ru) (b : Nat) (t : Nat → Nat) (u : Nat) (row : Nat → Nat) (z : Nat × (Nat → Nat)) (k : Nat) (hB : 0 < k → TB l D cI q (k - 1)) (hρ : RuOK ρ) (hc : cR f r ρ) (ht : tk ρ t) (h17 : f 17 = (z.1 : Int)) (hz7 : z.1 ≤ 7) (hu : u ≤ b) (hz : z.1 ≤ 6 → ∀ j, j < rb ρ → r 14 j = (z.2 j : Int) - 1) (hbk : b + k = rb ρ) (htr : ∀ j, j < b → r 13 j = (row j : Int) - 1) : Cn l D cI yX0_tryFrom cX0_tryFrom 5 none (2 * k + 3) 0 0 [.ref (q 19), .int (zI (b : Int)), .int (zI (n6 t)), .int (zI (u : Int))] (cW cI q f r) (cupQ cI q f r ρ b (cupF ρ k b t u row z)) := by
  refine Cn.of [(0, .ref (q 19)), (1, .int (zI (b : Int))), (2, .int (zI (n6 t))), (3, .int (zI (u : Int)))] (by decide +kernel) (Nat.le_of_ble_eq_true rfl) rfl (fun X hX hR => ?_)
  have hl9 := hρ.1
  have hn4 := hρ.2.1
  have hb6 := hρ.2.2.2.1
  refine zg_iload_n hX 3 rfl dX0_tryFrom_0 rfl 1 rfl ?_
  refine zg_aload_n hX 0 rfl dX0_tryFrom_1 rfl 2 rfl ?_
  refine cg_19_5 hX mw_158 (z.1 : Int) h17 dX0_tryFrom_2 5 rfl ?_
  refine zg_icmp_lt hX (by omega) (by omega) dX0_tryFrom_5 9 (by decide) 8 rfl (fun h5 => ?_) (fun h5 => ?_)
  · refine zg_aload_n hX 0 rfl dX0_tryFrom_9 rfl 10 rfl ?_
    refine cg_19_0 hX mw_153 dX0_tryFrom_10 13 rfl ?_
    refine zg_iload_n hX 1 rfl dX0_tryFrom_13 rfl 14 rfl ?_
    refine zg_callVi (As := [.int (zI (b : Int))]) (rest := []) (k0 := 3) (ci := 7) hX (c_X8_has l D cI q f r (rb ρ) (b : Int) hc.1 (by omega) (by omega)) mw_487 mw_347 mw_348 mw_3 mw_349 sg_X8_has (by omega) (by decide) (Nat.le_refl _) (Nat.le_refl _) rfl rfl rfl (Nat.le_of_ble_eq_true rfl) dX0_tryFrom_14 17 rfl ?_
    refine zg_ifb_ne hX dX0_tryFrom_17 41 (by decide) 20 rfl (fun h17b => ?_) (fun h17b => ?_)
    · have h17a := of_decide_eq_true h17b
      have hk0 : 0 < k := by omega
      refine zg_aload_n hX 0 rfl dX0_tryFrom_41 rfl 42 rfl ?_
      refine cg_19_3 hX mw_156 dX0_tryFrom_42 45 rfl ?_
      refine zg_iload_n hX 1 rfl dX0_tryFrom_45 rfl 46 rfl ?_
      refine zg_iconst hX dX0_tryFrom_46 47 rfl ?_
      refine cs_20 hX b (by omega) (by omega) dX0_tryFrom_47 48 rfl ?_
      have hfrA : frS f f r (pu r 13 (pu (r 13) b (-1))) := (frS_rf f r).pr 13 _ (by omega)
      refine zg_aload_n hX 0 rfl dX0_tryFrom_48 rfl 49 rfl ?_
      refine zg_iload_n hX 1 rfl dX0_tryFrom_49 rfl 50 rfl ?_
      refine zg_iload_n hX 2 rfl dX0_tryFrom_50 rfl 51 rfl ?_
      refine zg_iload_n hX 3 rfl dX0_tryFrom_51 rfl 52 rfl ?_
      refine zg_callV (As := [.int (zI (b : Int)), .int (zI (n6 t)), .int (zI (u : Int))]) (rest := []) (k0 := 19) (ci := 0) hX (hB hk0 f (pu r 13 (pu (r 13) b (-1))) ρ b t u (pu row b 0) z hρ (cR_fr hc hfrA) ht h17 hz7 (by omega) hz (by omega) (fun j hj => by rw [pu_eq, pu_at, pu_at]; split; rfl; exact htr j (by omega))) mw_491 mw_493 mw_s5 mw_6 mw_494 sg_X0_tryBar (by omega) (by decide) (Nat.le_refl _) (Nat.le_refl _) rfl rfl rfl (Nat.le_of_ble_eq_true rfl) dX0_tryFrom_52 55 rfl (fun v52 W52 hp52 => ?_)
      obtain ⟨F52, R52, rfl, rfl, hfrB, httB, h52, hz52⟩ := hp52
      show G X 5 0 0 (cW cI q F52 R52) [(0, .ref (q 19)), (1, .int (zI (b : Int))), (2, .int (zI (n6 t))), (3, .int (zI (u : Int)))] 55 []
      have hfr0 : frS f F52 r R52 := hfrA.tr hfrB
      have htt0 : ∀ j, j < b → R52 13 j = r 13 j := fun j hj => by rw [httB j (by omega), pu_eq, pu_ne _ _ (by omega)]
      have hst0 : cupS ρ (k - 1) b t u row (0 + 1) z = if lo ρ b t = 0 then cupF ρ (k - 1) (b + 1) (be ρ b t) u (pu row b 0) z else z := cup_step
      have g170 : F52 17 = ((cupS ρ (k - 1) b t u row (0 + 1) z).1 : Int) := by rw [hst0]; exact h52
      have gz0 : (cupS ρ (k - 1) b t u row (0 + 1) z).1 ≤ 6 → ∀ j, j < rb ρ → R52 14 j = ((cupS ρ (k - 1) b t u row (0 + 1) z).2 j : Int) - 1 := by rw [hst0]; exact hz52
      refine zg_iconst hX dX0_tryFrom_55 56 rfl ?_
      refine zg_istore hX [(4, .int (zI 0)), (0, .ref (q 19)), (1, .int (zI (b : Int))), (2, .int (zI (n6 t))), (3, .int (zI (u : Int)))] dX0_tryFrom_56 (by decide) rfl 58 rfl ?_
      have L58 : ∀ (fuel : Nat) (i : Nat) (F1 : Nat → Int) (R1 : Nat → Nat → Int) (x58_4 : Int), (rn ρ - i < fuel) → (i ≤ rn ρ) → (frS f F1 r R1) → (∀ j, j < b → R1 13 j = r 13 j) → (F1 17 = ((cupS ρ (k - 1) b t u row (i + 1) z).1 : Int)) → ((cupS ρ (k - 1) b t u row (i + 1) z).1 ≤ 6 → ∀ j, j < rb ρ → R1 14 j = ((cupS ρ (k - 1) b t u row (i + 1) z).2 j : Int) - 1) → x58_4 = (i : Int) → G X 5 0 0 (cW cI q F1 R1) [(0, .ref (q 19)), (1, .int (zI (b : Int))), (2, .int (zI (n6 t))), (3, .int (zI (u : Int))), (4, .int (zI x58_4))] 58 [] := by
        intro fuel
        induction fuel with
        | zero =>
          intro i F1 R1 x58_4 hm58
          exact absurd hm58 (Nat.not_lt_zero _)
        | succ fuel ih58 =>
          intro i F1 R1 x58_4 hm58 hi hfr htt g17 gz ex58_4
          subst ex58_4
          refine zg_iload hX 4 rfl dX0_tryFrom_58 60 rfl ?_
          refine zg_aload_n hX 0 rfl dX0_tryFrom_60 rfl 61 rfl ?_
          refine cg_19_1 hX mw_154 dX0_tryFrom_61 64 rfl ?_
          refine cg_6_6 hX mw_94 (rn ρ : Int) ((hfr.1 4 (by omega)).trans hc.2.2.1) dX0_tryFrom_64 67 rfl ?_
          refine zg_icmp_ge hX (by omega) (by omega) dX0_tryFrom_67 107 (by decide) 70 rfl (fun h67 => ?_) (fun h67 => ?_)
          · exact zg_vret hX hR (Nat.le_refl _) (Nat.le_refl _) rfl dX0_tryFrom_107 (by
              have e : cupF ρ k b t u row z = cupS ρ (k - 1) b t u row (i + 1) z := by rw [show k = (k - 1) + 1 by omega, show i = rn ρ by omega]; rfl
              rw [e]
              exact ⟨F1, R1, rfl, rfl, hfr, htt, g17, gz⟩)
          · have h9i := ht.1 i
            have hzi : (cupS ρ (k - 1) b t u row (i + 1) z).1 ≤ 7 := cupS_7 hz7
            refine zg_iload_n hX 2 rfl dX0_tryFrom_70 rfl 71 rfl ?_
            refine zg_iload hX 4 rfl dX0_tryFrom_71 73 rfl ?_
            refine zg_callSi (As := [.int (zI (n6 t)), .int (zI (i : Int))]) (rest := []) hX (c_X5_get l D cI _ t i (tk_16 ht) (by omega)) mw_498 mw_363 mw_12 mw_364 sg_X5_get.2 (by omega) (by decide) (Nat.le_refl _) (Nat.le_refl _) rfl (Nat.le_of_ble_eq_true rfl) dX0_tryFrom_73 76 rfl ?_
            refine zg_if_le hX (by omega) dX0_tryFrom_76 101 (by decide) 79 rfl (fun h76 => ?_) (fun h76 => ?_)
            · refine zg_iinc hX [(4, .int (zI ((i : Int) + 1))), (0, .ref (q 19)), (1, .int (zI (b : Int))), (2, .int (zI (n6 t))), (3, .int (zI (u : Int)))] 4 rfl dX0_tryFrom_101 (by decide) rfl 104 rfl ?_
              refine zg_goto hX dX0_tryFrom_104 58 (by decide) ?_
              exact zg_lv _ [1, 2, 3, 4, 0] rfl (ih58 (i + 1) F1 R1 _ (by omega) (by omega) (by first | exact hfr | exact hfr2) (by first | exact htt | exact htt2) (by first | exact (by rw [cup_skip hz7 (by omega)]; exact g17) | exact g172) (by first | exact (by rw [cup_skip hz7 (by omega)]; exact gz) | exact gz2) (by omega))
            · refine zg_aload_n hX 0 rfl dX0_tryFrom_79 rfl 80 rfl ?_
              refine cg_19_3 hX mw_156 dX0_tryFrom_80 83 rfl ?_
              refine zg_iload_n hX 1 rfl dX0_tryFrom_83 rfl 84 rfl ?_
              refine zg_iload hX 4 rfl dX0_tryFrom_84 86 rfl ?_
              refine cs_20 hX b (by omega) (by omega) dX0_tryFrom_86 87 rfl ?_
              have hfrC : frS f F1 r (pu R1 13 (pu (R1 13) b (i : Int))) := hfr.pr 13 _ (by omega)
              refine zg_aload_n hX 0 rfl dX0_tryFrom_87 rfl 88 rfl ?_
              refine zg_iload_n hX 1 rfl dX0_tryFrom_88 rfl 89 rfl ?_
              refine zg_iload_n hX 2 rfl dX0_tryFrom_89 rfl 90 rfl ?_
              refine zg_iload hX 4 rfl dX0_tryFrom_90 92 rfl ?_
              refine zg_callSNi (As := [.int (zI (n6 t)), .int (zI (i : Int))]) (rest := [.int (zI (b : Int)), .ref (q 19)]) hX (c_X9_refreshed l D cI _ t i (tk_16 ht) (by omega)) (List.mem_of_getElem? (i := 6) rfl) mw_444 mw_1 mw_445 sg_X9_refreshed.2 (by omega) (by decide) (Nat.le_refl _) (Nat.le_refl _) rfl (Nat.le_of_ble_eq_true rfl) dX0_tryFrom_92 95 rfl ?_
              refine zg_iload_n hX 3 rfl dX0_tryFrom_95 rfl 96 rfl ?_
              refine zg_iconst hX dX0_tryFrom_96 97 rfl ?_
              refine zg_iadd hX dX0_tryFrom_97 98 rfl ?_
              refine zg_callV (As := [.int (zI (b : Int)), .int (zI (n6 (rf t i))), .int (zI ((u : Int) + 1))]) (rest := []) (k0 := 19) (ci := 0) hX (hB hk0 F1 (pu R1 13 (pu (R1 13) b (i : Int))) ρ b (rf t i) (u + 1) (pu row b (i + 1)) (cupS ρ (k - 1) b t u row (i + 1) z) hρ (cR_fr hc hfrC) (tk_rf ht (by omega)) g17 hzi (by omega) gz (by omega) (fun j hj => by rw [pu_eq, pu_at, pu_at]; split; omega; rw [htt j (by omega)]; exact htr j (by omega))) mw_491 mw_493 mw_s5 mw_6 mw_494 sg_X0_tryBar (by omega) (by decide) (Nat.le_refl _) (Nat.le_refl _) rfl rfl rfl (Nat.le_of_ble_eq_true rfl) dX0_tryFrom_98 101 rfl (fun v98 W98 hp98 => ?_)
              obtain ⟨F98, R98, rfl, rfl, hfrD, httD, h98, hz98⟩ := hp98
              show G X 5 0 0 (cW cI q F98 R98) [(0, .ref (q 19)), (1, .int (zI (b : Int))), (2, .int (zI (n6 t))), (3, .int (zI (u : Int))), (4, .int (zI (i : Int)))] 101 []
              have hfr2 : frS f F98 r R98 := hfrC.tr hfrD
              have htt2 : ∀ j, j < b → R98 13 j = r 13 j := fun j hj => by rw [httD j (by omega), pu_eq, pu_ne _ _ (by omega)]; exact htt j hj
              have hst2 : cupS ρ (k - 1) b t u row (i + 1 + 1) z = if lo ρ b (rf t i) = 0 then cupF ρ (k - 1) (b + 1) (be ρ b (rf t i)) (u + 1) (pu row b (i + 1)) (cupS ρ (k - 1) b t u row (i + 1) z) else cupS ρ (k - 1) b t u row (i + 1) z := by
                rw [cup_step]; simp only [tc, if_neg (show ¬ i + 1 = 0 by omega), show i + 1 - 1 = i by omega, show min (i + 1) 1 = 1 by omega]
              have g172 : F98 17 = ((cupS ρ (k - 1) b t u row (i + 1 + 1) z).1 : Int) := by rw [hst2]; exact h98
              have gz2 : (cupS ρ (k - 1) b t u row (i + 1 + 1) z).1 ≤ 6 → ∀ j, j < rb ρ → R98 14 j = ((cupS ρ (k - 1) b t u row (i + 1 + 1) z).2 j : Int) - 1 := by rw [hst2]; exact hz98
              refine zg_iinc hX [(4, .int (zI ((i : Int) + 1))), (0, .ref (q 19)), (1, .int (zI (b : Int))), (2, .int (zI (n6 t))), (3, .int (zI (u : Int)))] 4 rfl dX0_tryFrom_101 (by decide) rfl 104 rfl ?_
              refine zg_goto hX dX0_tryFrom_104 58 (by decide) ?_
              exact zg_lv _ [1, 2, 3, 4, 0] rfl (ih58 (i + 1) F98 R98 _ (by omega) (by omega) (by first | exact hfr | exact hfr2) (by first | exact htt | exact htt2) (by first | exact (by rw [cup_skip hz7 (by omega)]; exact g17) | exact g172) (by first | exact (by rw [cup_skip hz7 (by omega)]; exact gz) | exact gz2) (by omega))
      exact zg_lv _ [1, 2, 3, 4, 0] rfl (L58 _ 0 F52 R52 _ (Nat.lt_succ_self _) (by omega) (hfr0) (htt0) (g170) (gz0) (rfl))
    · have h17a := of_decide_eq_false h17b
      have hk0 : k = 0 := by omega
      refine zg_aload_n hX 0 rfl dX0_tryFrom_20 rfl 21 rfl ?_
      refine zg_iload_n hX 3 rfl dX0_tryFrom_21 rfl 22 rfl ?_
      refine cp_19_5 hX mw_158 dX0_tryFrom_22 25 rfl ?_
      refine zg_aload_n hX 0 rfl dX0_tryFrom_25 rfl 26 rfl ?_
      refine cg_19_3 hX mw_156 dX0_tryFrom_26 29 rfl ?_
      refine zg_iconst hX dX0_tryFrom_29 30 rfl ?_
      refine zg_aload_n hX 0 rfl dX0_tryFrom_30 rfl 31 rfl ?_
      refine cg_19_4 hX mw_157 dX0_tryFrom_31 34 rfl ?_
      refine zg_iconst hX dX0_tryFrom_34 35 rfl ?_
      refine zg_bipush hX dX0_tryFrom_35 37 rfl (by decide) ?_
      refine zg_copy (k0 := 20) (k1 := 21) hX (cW cI q (pu f 17 (u : Int)) (pu r 14 (fun j => if j < 6 then (r 13) j else (r 14) j))) 6 mw_488 mw_490 mw_489 mw_13 rfl rfl (by decide) (by decide) (by decide) (by omega) (Nat.le_of_ble_eq_true rfl) rfl dX0_tryFrom_37 40 rfl ?_
      exact zg_vret hX hR (Nat.le_refl _) (Nat.le_refl _) rfl dX0_tryFrom_40 (by
        have e : cupF ρ k b t u row z = (u, row) := by rw [hk0]; simp only [cupF]; rw [if_pos (by omega)]
        rw [e]
        exact ⟨_, _, rfl, rfl, ((frS_rf f r).pf 17 _ (by omega)).pr 14 _ (by omega), fun _ _ => rfl, rfl, fun _ j hj => by rw [pu_eq, if_pos (by omega)]; exact htr j (by omega)⟩)
  · exact zg_vret hX hR (Nat.le_refl _) (Nat.le_refl _) rfl dX0_tryFrom_8 (by rw [cup_prune hz7 (by omega)]; exact ⟨f, r, rfl, rfl, frS_rf f r, fun _ _ => rfl, h17, hz⟩)
theorem TF_all (l : Launch) (D : va_G) (cI : ClassId) (q : Nat → Nat) : ∀ k, TF l D cI q k := by
  intro k
  induction k with
  | zero => exact fun f r ρ b t u row z h1 h2 h3 h4 h5 h6 h7 h8 h9 => c_X0_tryFrom l D cI q f r ρ b t u row z 0 (fun h => absurd h (Nat.lt_irrefl 0)) h1 h2 h3 h4 h5 h6 h7 h8 h9
  | succ k ih => exact fun f r ρ b t u row z h1 h2 h3 h4 h5 h6 h7 h8 h9 => c_X0_tryFrom l D cI q f r ρ b t u row z (k + 1) (fun _ => fun f r ρ b t u row z g1 g2 g3 g4 g5 g6 g7 g8 g9 => c_X0_tryBar l D cI q f r ρ b t u row z k ih g1 g2 g3 g4 g5 g6 g7 g8 g9) h1 h2 h3 h4 h5 h6 h7 h8 h9
-- CupSearch.run
set_option maxRecDepth 20000 in
theorem c_X0_run (l : Launch) (D : va_G) (cI : ClassId) (q : Nat → Nat) (f : Nat → Int) (r : Nat → Nat → Int) (ρ : Ru) (t : Nat → Nat) (hρ : RuOK ρ) (hc : cR f r ρ) (ht : tk ρ t) (h5 : f 5 = n6 t) : Cn l D cI yX0_run cX0_run 1 none 16 0 0 [.ref (q 19)] (cW cI q f r) (cupQ cI q f r ρ 0 (cupF ρ (rb ρ) 0 t 0 (fun _ => 0) (7, fun _ => 0))) := by
  refine Cn.of [(0, .ref (q 19))] (by decide +kernel) (Nat.le_of_ble_eq_true rfl) rfl (fun X hX hR => ?_)
  have hl9 := hρ.1
  have hn4 := hρ.2.1
  have hb6 := hρ.2.2.2.1
  refine zg_aload_n hX 0 rfl dX0_run_0 rfl 1 rfl ?_
  refine zg_bipush hX dX0_run_1 3 rfl (by decide) ?_
  refine cp_19_5 hX mw_158 dX0_run_3 6 rfl ?_
  refine zg_aload_n hX 0 rfl dX0_run_6 rfl 7 rfl ?_
  refine zg_iconst hX dX0_run_7 8 rfl ?_
  refine zg_aload_n hX 0 rfl dX0_run_8 rfl 9 rfl ?_
  refine cg_19_1 hX mw_154 dX0_run_9 12 rfl ?_
  refine cg_6_7 hX mw_96 (n6 t) h5 dX0_run_12 15 rfl ?_
  refine zg_iconst hX dX0_run_15 16 rfl ?_
  refine zg_callV (As := [.int (zI 0), .int (zI (n6 t)), .int (zI 0)]) (rest := []) (k0 := 19) (ci := 0) hX (TF_all l D cI q (rb ρ) (pu f 17 7) r ρ 0 t 0 (fun _ => 0) (7, fun _ => 0) hρ (cR_fr hc ((frS_rf f r).pf 17 7 (by omega))) ht rfl (by decide) (Nat.le_refl 0) (fun h => absurd h (by decide)) (Nat.zero_add _) (fun j hj => absurd hj (Nat.not_lt_zero j))) mw_483 mw_485 mw_s4 mw_6 mw_486 sg_X0_tryFrom (by omega) (by decide) (Nat.le_refl _) (Nat.le_refl _) rfl rfl rfl (Nat.le_of_ble_eq_true rfl) dX0_run_16 19 rfl (fun v16 W16 hp16 => ?_)
  obtain ⟨F16, R16, rfl, rfl, hfr, htt, h16, hzz⟩ := hp16
  show G X 1 0 0 (cW cI q F16 R16) [(0, .ref (q 19))] 19 []
  exact zg_vret hX hR (Nat.le_refl _) (Nat.le_refl _) rfl dX0_run_19 (⟨F16, R16, rfl, rfl, ((frS_rf f r).pf 17 7 (by omega)).tr hfr, htt, h16, hzz⟩)
-- fewest
set_option maxRecDepth 20000 in
theorem c_X0_fewest (l : Launch) (D : va_G) (cI : ClassId) (q : Nat → Nat) (f : Nat → Int) (r : Nat → Nat → Int) (n : Nat) (h17 : f 17 = (n : Int)) (hn : n ≤ 7) : Cn l D cI yX0_fewest cX0_fewest 1 (some .int) 0 0 0 [.ref (q 19)] (cW cI q f r) (pI (if 6 < n then -1 else (n : Int)) (cW cI q f r)) := by
  refine Cn.of [(0, .ref (q 19))] (by decide +kernel) (Nat.le_of_ble_eq_true rfl) rfl (fun X hX hR => ?_)
  refine zg_aload_n hX 0 rfl dX0_fewest_0 rfl 1 rfl ?_
  refine cg_19_5 hX mw_158 (n : Int) h17 dX0_fewest_1 4 rfl ?_
  refine zg_bipush hX dX0_fewest_4 6 rfl (by decide) ?_
  refine zg_icmp_le hX (by omega) (by omega) dX0_fewest_6 13 (by decide) 9 rfl (fun h6 => ?_) (fun h6 => ?_)
  · refine zg_aload_n hX 0 rfl dX0_fewest_13 rfl 14 rfl ?_
    refine cg_19_5 hX mw_158 (n : Int) h17 dX0_fewest_14 17 rfl ?_
    exact zg_iret hX hR (Nat.le_refl _) (Nat.le_refl _) rfl dX0_fewest_17 (pI_of (by first | (rw [if_pos (by omega)]; done) | (rw [if_neg (by omega)]; done)))
  · refine zg_iconst hX dX0_fewest_9 10 rfl ?_
    refine zg_goto hX dX0_fewest_10 17 (by decide) ?_
    exact zg_iret hX hR (Nat.le_refl _) (Nat.le_refl _) rfl dX0_fewest_17 (pI_of (by first | (rw [if_pos (by omega)]; done) | (rw [if_neg (by omega)]; done)))
-- whomAheadOf
set_option maxRecDepth 20000 in
theorem c_X0_whomAheadOf (l : Launch) (D : va_G) (cI : ClassId) (q : Nat → Nat) (f : Nat → Int) (r : Nat → Nat → Int) (n B b : Nat) (row : Nat → Nat) (h17 : f 17 = (n : Int)) (hn : n ≤ 7) (h1 : f 1 = (B : Int)) (hB : B ≤ 6) (hb : b ≤ 5) (hrow : n ≤ 6 → ∀ j, j < B → r 14 j = (row j : Int) - 1) : Cn l D cI yX0_whomAheadOf cX0_whomAheadOf 2 (some .int) 1 0 0 [.ref (q 19), .int (zI (b : Int))] (cW cI q f r) (pI (if 6 < n then -1 else if b < B then (row b : Int) - 1 else -1) (cW cI q f r)) := by
  refine Cn.of [(0, .ref (q 19)), (1, .int (zI (b : Int)))] (by decide +kernel) (Nat.le_of_ble_eq_true rfl) rfl (fun X hX hR => ?_)
  refine zg_aload_n hX 0 rfl dX0_whomAheadOf_0 rfl 1 rfl ?_
  refine cg_19_5 hX mw_158 (n : Int) h17 dX0_whomAheadOf_1 4 rfl ?_
  refine zg_bipush hX dX0_whomAheadOf_4 6 rfl (by decide) ?_
  refine zg_icmp_gt hX (by omega) (by omega) dX0_whomAheadOf_6 20 (by decide) 9 rfl (fun h6 => ?_) (fun h6 => ?_)
  · refine zg_iconst hX dX0_whomAheadOf_20 21 rfl ?_
    refine zg_goto hX dX0_whomAheadOf_21 30 (by decide) ?_
    exact zg_iret hX hR (Nat.le_refl _) (Nat.le_refl _) rfl dX0_whomAheadOf_30 (pI_of (by first | (rw [if_pos (by omega)]; done) | (rw [if_neg (by omega), if_pos (by omega)]; done) | (rw [if_neg (by omega), if_neg (by omega)]; done)))
  · refine zg_aload_n hX 0 rfl dX0_whomAheadOf_9 rfl 10 rfl ?_
    refine cg_19_0 hX mw_153 dX0_whomAheadOf_10 13 rfl ?_
    refine zg_iload_n hX 1 rfl dX0_whomAheadOf_13 rfl 14 rfl ?_
    refine zg_callVi (As := [.int (zI (b : Int))]) (rest := []) (k0 := 3) (ci := 7) hX (c_X8_has l D cI q f r B (b : Int) h1 (by omega) (by omega)) mw_487 mw_347 mw_348 mw_3 mw_349 sg_X8_has (by decide) (by decide) (Nat.le_refl _) (Nat.le_refl _) rfl rfl rfl (Nat.le_of_ble_eq_true rfl) dX0_whomAheadOf_14 17 rfl ?_
    refine zg_ifb_ne hX dX0_whomAheadOf_17 24 (by decide) 20 rfl (fun h17b => ?_) (fun h17b => ?_)
    · have h17a := of_decide_eq_true h17b
      refine zg_aload_n hX 0 rfl dX0_whomAheadOf_24 rfl 25 rfl ?_
      refine cg_19_4 hX mw_157 dX0_whomAheadOf_25 28 rfl ?_
      refine zg_iload_n hX 1 rfl dX0_whomAheadOf_28 rfl 29 rfl ?_
      refine ca_21 hX b ((row b : Int) - 1) (by omega) (by omega) (hrow (by omega) b (by omega)) dX0_whomAheadOf_29 30 rfl ?_
      exact zg_iret hX hR (Nat.le_refl _) (Nat.le_refl _) rfl dX0_whomAheadOf_30 (pI_of (by first | (rw [if_pos (by omega)]; done) | (rw [if_neg (by omega), if_pos (by omega)]; done) | (rw [if_neg (by omega), if_neg (by omega)]; done)))
    · have h17a := of_decide_eq_false h17b
      refine zg_iconst hX dX0_whomAheadOf_20 21 rfl ?_
      refine zg_goto hX dX0_whomAheadOf_21 30 (by decide) ?_
      exact zg_iret hX hR (Nat.le_refl _) (Nat.le_refl _) rfl dX0_whomAheadOf_30 (pI_of (by first | (rw [if_pos (by omega)]; done) | (rw [if_neg (by omega), if_pos (by omega)]; done) | (rw [if_neg (by omega), if_neg (by omega)]; done)))
-- OrderSearch.tryFrom
set_option maxRecDepth 20000 in
theorem c_X6_tryFrom (l : Launch) (D : va_G) (cI : ClassId) (q : Nat → Nat) (f : Nat → Int) (r : Nat → Nat → Int) (ρ : Ru) (j0 : Nat) (us : Nat → Bool) (t : Nat → Nat) (lost : Nat) (row : Nat → Nat) (z : Nat × (Nat → Nat)) (k : Nat) (hO : 0 < k → TO l D cI q (k - 1)) (hρ : RuOK ρ) (hc : cR f r ρ) (ht : tk ρ t) (h18 : f 18 = (z.1 : Int)) (hz7 : z.1 ≤ 25) (hu : lost ≤ 4 * j0) (hz : z.1 ≤ 24 → ∀ j, j < rb ρ → r 16 j = (z.2 j : Int)) (hbk : j0 + k = rb ρ) (htr : ∀ j, j < j0 → r 15 j = (row j : Int)) : Cn l D cI yX6_tryFrom cX6_tryFrom 9 none (k + 3) 0 0 [.ref (q 22), .int (zI (j0 : Int)), .int (zI ((mk us 6 : Nat) : Int)), .int (zI (n6 t)), .int (zI (lost : Int))] (cW cI q f r) (ordQ cI q f r ρ j0 (ordF ρ k j0 us t lost row z)) := by
  refine Cn.of [(0, .ref (q 22)), (1, .int (zI (j0 : Int))), (2, .int (zI ((mk us 6 : Nat) : Int))), (3, .int (zI (n6 t))), (4, .int (zI (lost : Int)))] (by decide +kernel) (Nat.le_of_ble_eq_true rfl) rfl (fun X hX hR => ?_)
  have hl9 := hρ.1
  have hn4 := hρ.2.1
  have hb6 := hρ.2.2.2.1
  have hmu := mk_rng us 6 (by omega)
  refine zg_iload hX 4 rfl dX6_tryFrom_0 2 rfl ?_
  refine zg_aload_n hX 0 rfl dX6_tryFrom_2 rfl 3 rfl ?_
  refine cg_22_4 hX mw_182 (z.1 : Int) h18 dX6_tryFrom_3 6 rfl ?_
  refine zg_icmp_lt hX (by omega) (by omega) dX6_tryFrom_6 10 (by decide) 9 rfl (fun h6 => ?_) (fun h6 => ?_)
  · refine zg_aload_n hX 0 rfl dX6_tryFrom_10 rfl 11 rfl ?_
    refine cg_22_0 hX mw_178 dX6_tryFrom_11 14 rfl ?_
    refine zg_iload_n hX 1 rfl dX6_tryFrom_14 rfl 15 rfl ?_
    refine zg_callVi (As := [.int (zI (j0 : Int))]) (rest := []) (k0 := 3) (ci := 7) hX (c_X8_has l D cI q f r (rb ρ) (j0 : Int) hc.1 (by omega) (by omega)) mw_520 mw_347 mw_348 mw_3 mw_349 sg_X8_has (by omega) (by decide) (Nat.le_refl _) (Nat.le_refl _) rfl rfl rfl (Nat.le_of_ble_eq_true rfl) dX6_tryFrom_15 18 rfl ?_
    refine zg_ifb_ne hX dX6_tryFrom_18 43 (by decide) 21 rfl (fun h18b => ?_) (fun h18b => ?_)
    · have h18a := of_decide_eq_true h18b
      have hk0 : 0 < k := by omega
      refine zg_iconst hX dX6_tryFrom_43 44 rfl ?_
      refine zg_istore hX [(5, .int (zI 0)), (0, .ref (q 22)), (1, .int (zI (j0 : Int))), (2, .int (zI ((mk us 6 : Nat) : Int))), (3, .int (zI (n6 t))), (4, .int (zI (lost : Int)))] dX6_tryFrom_44 (by decide) rfl 46 rfl ?_
      have L46 : ∀ (fuel : Nat) (i : Nat) (F1 : Nat → Int) (R1 : Nat → Nat → Int) (x46_5 : Int), (rb ρ - i < fuel) → (i ≤ rb ρ) → (frS f F1 r R1) → (∀ j, j < j0 → R1 15 j = r 15 j) → (F1 18 = ((ordS ρ (k - 1) j0 us t lost row i z).1 : Int)) → ((ordS ρ (k - 1) j0 us t lost row i z).1 ≤ 24 → ∀ j, j < rb ρ → R1 16 j = ((ordS ρ (k - 1) j0 us t lost row i z).2 j : Int)) → x46_5 = (i : Int) → G X 9 0 0 (cW cI q F1 R1) [(0, .ref (q 22)), (1, .int (zI (j0 : Int))), (2, .int (zI ((mk us 6 : Nat) : Int))), (3, .int (zI (n6 t))), (4, .int (zI (lost : Int))), (5, .int (zI x46_5))] 46 [] := by
        intro fuel
        induction fuel with
        | zero =>
          intro i F1 R1 x46_5 hm46
          exact absurd hm46 (Nat.not_lt_zero _)
        | succ fuel ih46 =>
          intro i F1 R1 x46_5 hm46 hi hfr htt g18 gz ex46_5
          subst ex46_5
          refine zg_iload hX 5 rfl dX6_tryFrom_46 48 rfl ?_
          refine zg_aload_n hX 0 rfl dX6_tryFrom_48 rfl 49 rfl ?_
          refine cg_22_0 hX mw_178 dX6_tryFrom_49 52 rfl ?_
          refine cg_3_2 hX mw_59 (rb ρ : Int) ((hfr.1 1 (by omega)).trans hc.1) dX6_tryFrom_52 55 rfl ?_
          refine zg_icmp_ge hX (by omega) (by omega) dX6_tryFrom_55 145 (by decide) 58 rfl (fun h55 => ?_) (fun h55 => ?_)
          · exact zg_vret hX hR (Nat.le_refl _) (Nat.le_refl _) rfl dX6_tryFrom_145 (by
              have e : ordF ρ k j0 us t lost row z = ordS ρ (k - 1) j0 us t lost row i z := by rw [show k = (k - 1) + 1 by omega, show i = rb ρ by omega]; rfl
              rw [e]
              exact ⟨F1, R1, rfl, rfl, hfr, htt, g18, gz⟩)
          · have hzi : (ordS ρ (k - 1) j0 us t lost row i z).1 ≤ 25 := ordS_le _ _ _ _ _ _ _ hz7 _
            have hsf := sh_facts ρ i t hρ
            have hlo := lo_le ρ i t hρ
            refine zg_iload_n hX 2 rfl dX6_tryFrom_58 rfl 59 rfl ?_
            refine zg_iload hX 5 rfl dX6_tryFrom_59 61 rfl ?_
            refine zg_ishr hX ((mk us 6 / 2 ^ i : Nat) : Int) (zb_shr (by omega) (by omega)) dX6_tryFrom_61 62 rfl ?_
            refine zg_iconst hX dX6_tryFrom_62 63 rfl ?_
            refine zg_iand hX (b2 (us i)) (zb_bit (by omega)) dX6_tryFrom_63 64 rfl ?_
            refine zg_ifb_ne hX dX6_tryFrom_64 139 (by decide) 67 rfl (fun h64 => ?_) (fun h64 => ?_)
            · refine zg_iinc hX [(5, .int (zI ((i : Int) + 1))), (0, .ref (q 22)), (1, .int (zI (j0 : Int))), (2, .int (zI ((mk us 6 : Nat) : Int))), (3, .int (zI (n6 t))), (4, .int (zI (lost : Int)))] 5 rfl dX6_tryFrom_139 (by decide) rfl 142 rfl ?_
              refine zg_goto hX dX6_tryFrom_142 46 (by decide) ?_
              exact zg_lv _ [1, 2, 3, 4, 5, 0] rfl (ih46 (i + 1) F1 R1 _ (by omega) (by omega) (by first | exact hfr | exact hfr2) (by first | exact htt | exact htt2) (by first | exact (by rw [ord_step, if_pos h64]; exact g18) | exact g182) (by first | exact (by rw [ord_step, if_pos h64]; exact gz) | exact gz2) (by omega))
            · refine zg_aload_n hX 0 rfl dX6_tryFrom_67 rfl 68 rfl ?_
              refine cg_22_2 hX mw_180 dX6_tryFrom_68 71 rfl ?_
              refine zg_iload_n hX 1 rfl dX6_tryFrom_71 rfl 72 rfl ?_
              refine zg_iload hX 5 rfl dX6_tryFrom_72 74 rfl ?_
              refine cs_23 hX j0 (by omega) (by omega) dX6_tryFrom_74 75 rfl ?_
              have hfrC : frS f F1 r (pu R1 15 (pu (R1 15) j0 (i : Int))) := hfr.pr 15 _ (by omega)
              have hcC := cR_fr hc hfrC
              refine zg_aload_n hX 0 rfl dX6_tryFrom_75 rfl 76 rfl ?_
              refine cg_22_1 hX mw_179 dX6_tryFrom_76 79 rfl ?_
              refine zg_iload hX 5 rfl dX6_tryFrom_79 81 rfl ?_
              refine zg_iload_n hX 3 rfl dX6_tryFrom_81 rfl 82 rfl ?_
              refine zg_callVi (As := [.int (zI (i : Int)), .int (zI (n6 t))]) (rest := []) (k0 := 18) (ci := 2) hX (c_X2_sharesOf l D cI q F1 (pu R1 15 (pu (R1 15) j0 (i : Int))) ρ t i hρ hcC ht (by omega)) mw_522 mw_355 mw_356 mw_5 mw_357 sg_X2_sharesOf (by omega) (by decide) (Nat.le_refl _) (Nat.le_refl _) rfl rfl rfl (Nat.le_of_ble_eq_true rfl) dX6_tryFrom_82 85 rfl ?_
              refine zg_istore hX [(6, .int (zI (n6 (sh ρ i t)))), (0, .ref (q 22)), (1, .int (zI (j0 : Int))), (2, .int (zI ((mk us 6 : Nat) : Int))), (3, .int (zI (n6 t))), (4, .int (zI (lost : Int))), (5, .int (zI (i : Int)))] dX6_tryFrom_85 (by decide) rfl 87 rfl ?_
              refine zg_iload hX 5 rfl dX6_tryFrom_87 89 rfl ?_
              refine zg_aload_n hX 1 rfl dX6_tryFrom_89 rfl 90 rfl ?_
              refine cg_22_0 hX mw_178 dX6_tryFrom_90 93 rfl ?_
              refine cg_3_1 hX mw_53 dX6_tryFrom_93 96 rfl ?_
              refine zg_iload hX 6 rfl dX6_tryFrom_96 98 rfl ?_
              refine ca_5 hX i (rp ρ i : Int) (by omega) (by omega) (hcC.2.2.2.2.2.2.2 i (by omega)) dX6_tryFrom_98 99 rfl ?_
              refine zg_iadd hX dX6_tryFrom_99 100 rfl ?_
              refine zg_iload hX 0 rfl dX6_tryFrom_100 102 rfl ?_
              refine zg_callSi (As := [.int (zI (n6 (sh ρ i t)))]) (rest := [.int (zI ((lost : Int) + (rp ρ i : Int)))]) hX (c_X5_sum l D cI _ (sh ρ i t) (fun p => by have := hsf.1 p; omega)) mw_523 mw_379 mw_12 mw_380 sg_X5_sum.2 (by omega) (by decide) (Nat.le_refl _) (Nat.le_refl _) rfl (Nat.le_of_ble_eq_true rfl) dX6_tryFrom_102 105 rfl ?_
              refine zg_isub hX dX6_tryFrom_105 106 rfl ?_
              have e106 : (((lost : Int) + (rp ρ i : Int)) - (su (sh ρ i t) 6 : Int) : Int) = ((lost + lo ρ i t : Nat) : Int) := by omega
              refine zg_to (lv2 := [(6, .int (zI (n6 (sh ρ i t)))), (0, .ref (q 22)), (1, .int (zI (j0 : Int))), (2, .int (zI ((mk us 6 : Nat) : Int))), (3, .int (zI (n6 t))), (4, .int (zI (lost : Int))), (5, .int (zI (i : Int)))]) (ws2 := (cW cI q F1 (pu R1 15 (pu (R1 15) j0 (i : Int))))) (st2 := [.int (zI ((lost + lo ρ i t : Nat) : Int))]) ?_ rfl rfl (by rw [e106])
              refine zg_istore hX [(7, .int (zI ((lost + lo ρ i t : Nat) : Int))), (6, .int (zI (n6 (sh ρ i t)))), (0, .ref (q 22)), (1, .int (zI (j0 : Int))), (2, .int (zI ((mk us 6 : Nat) : Int))), (3, .int (zI (n6 t))), (4, .int (zI (lost : Int))), (5, .int (zI (i : Int)))] dX6_tryFrom_106 (by decide) rfl 108 rfl ?_
              refine zg_aload_n hX 2 rfl dX6_tryFrom_108 rfl 109 rfl ?_
              refine cg_22_1 hX mw_179 dX6_tryFrom_109 112 rfl ?_
              refine zg_iload hX 7 rfl dX6_tryFrom_112 114 rfl ?_
              refine zg_iload_n hX 5 rfl dX6_tryFrom_114 rfl 115 rfl ?_
              refine zg_iload hX 1 rfl dX6_tryFrom_115 117 rfl ?_
              refine zg_callVi (As := [.int (zI (i : Int)), .int (zI (n6 t)), .int (zI (n6 (sh ρ i t)))]) (rest := []) (k0 := 18) (ci := 2) hX (c_X2_tiredBehind l D cI q F1 (pu R1 15 (pu (R1 15) j0 (i : Int))) ρ t i hρ hcC ht (by omega)) mw_524 mw_383 mw_384 mw_5 mw_385 sg_X2_tiredBehind (by omega) (by decide) (Nat.le_refl _) (Nat.le_refl _) rfl rfl rfl (Nat.le_of_ble_eq_true rfl) dX6_tryFrom_117 120 rfl ?_
              refine zg_istore hX [(8, .int (zI (n6 (be ρ i t)))), (7, .int (zI ((lost + lo ρ i t : Nat) : Int))), (6, .int (zI (n6 (sh ρ i t)))), (0, .ref (q 22)), (1, .int (zI (j0 : Int))), (2, .int (zI ((mk us 6 : Nat) : Int))), (3, .int (zI (n6 t))), (4, .int (zI (lost : Int))), (5, .int (zI (i : Int)))] dX6_tryFrom_120 (by decide) rfl 122 rfl ?_
              refine zg_aload_n hX 3 rfl dX6_tryFrom_122 rfl 123 rfl ?_
              refine zg_iload_n hX 4 rfl dX6_tryFrom_123 rfl 124 rfl ?_
              refine zg_iconst hX dX6_tryFrom_124 125 rfl ?_
              refine zg_iadd hX dX6_tryFrom_125 126 rfl ?_
              refine zg_iload_n hX 5 rfl dX6_tryFrom_126 rfl 127 rfl ?_
              refine zg_iconst hX dX6_tryFrom_127 128 rfl ?_
              refine zg_iload hX 8 rfl dX6_tryFrom_128 130 rfl ?_
              refine zg_ishl hX ((2 ^ i : Nat) : Int) (zb_shl1 (by omega)) dX6_tryFrom_130 131 rfl ?_
              refine zg_ior hX ((mk (pu us i true) 6 : Nat) : Int) (zb_or (by omega) (by omega)) dX6_tryFrom_131 132 rfl ?_
              refine zg_iload hX 0 rfl dX6_tryFrom_132 134 rfl ?_
              refine zg_iload hX 1 rfl dX6_tryFrom_134 136 rfl ?_
              refine zg_callV (As := [.int (zI ((j0 : Int) + 1)), .int (zI ((mk (pu us i true) 6 : Nat) : Int)), .int (zI (n6 (be ρ i t))), .int (zI ((lost + lo ρ i t : Nat) : Int))]) (rest := []) (k0 := 22) (ci := 5) hX (hO hk0 F1 (pu R1 15 (pu (R1 15) j0 (i : Int))) ρ (j0 + 1) (pu us i true) (be ρ i t) (lost + lo ρ i t) (pu row j0 i) (ordS ρ (k - 1) j0 us t lost row i z) hρ hcC (tk_be _ _ _) g18 hzi (by omega) gz (by omega) (fun j hj => by rw [pu_eq, pu_at, pu_at]; split; rfl; rw [htt j (by omega)]; exact htr j (by omega))) mw_516 mw_518 mw_s6 mw_7 mw_519 sg_X6_tryFrom (by omega) (by decide) (Nat.le_refl _) (Nat.le_refl _) rfl rfl rfl (Nat.le_of_ble_eq_true rfl) dX6_tryFrom_136 139 rfl (fun v136 W136 hp136 => ?_)
              obtain ⟨F136, R136, rfl, rfl, hfrD, httD, h136, hz136⟩ := hp136
              show G X 9 0 0 (cW cI q F136 R136) [(8, .int (zI (n6 (be ρ i t)))), (7, .int (zI ((lost + lo ρ i t : Nat) : Int))), (6, .int (zI (n6 (sh ρ i t)))), (0, .ref (q 22)), (1, .int (zI (j0 : Int))), (2, .int (zI ((mk us 6 : Nat) : Int))), (3, .int (zI (n6 t))), (4, .int (zI (lost : Int))), (5, .int (zI (i : Int)))] 139 []
              have hfr2 : frS f F136 r R136 := hfrC.tr hfrD
              have htt2 : ∀ j, j < j0 → R136 15 j = r 15 j := fun j hj => by rw [httD j (by omega), pu_eq, pu_ne _ _ (by omega)]; exact htt j hj
              have hst2 : ordS ρ (k - 1) j0 us t lost row (i + 1) z = ordF ρ (k - 1) (j0 + 1) (pu us i true) (be ρ i t) (lost + lo ρ i t) (pu row j0 i) (ordS ρ (k - 1) j0 us t lost row i z) := by rw [ord_step, if_neg (by rw [h64]; decide)]
              have g182 : F136 18 = ((ordS ρ (k - 1) j0 us t lost row (i + 1) z).1 : Int) := by rw [hst2]; exact h136
              have gz2 : (ordS ρ (k - 1) j0 us t lost row (i + 1) z).1 ≤ 24 → ∀ j, j < rb ρ → R136 16 j = ((ordS ρ (k - 1) j0 us t lost row (i + 1) z).2 j : Int) := by rw [hst2]; exact hz136
              refine zg_iinc hX [(5, .int (zI ((i : Int) + 1))), (8, .int (zI (n6 (be ρ i t)))), (7, .int (zI ((lost + lo ρ i t : Nat) : Int))), (6, .int (zI (n6 (sh ρ i t)))), (0, .ref (q 22)), (1, .int (zI (j0 : Int))), (2, .int (zI ((mk us 6 : Nat) : Int))), (3, .int (zI (n6 t))), (4, .int (zI (lost : Int)))] 8 rfl dX6_tryFrom_139 (by decide) rfl 142 rfl ?_
              refine zg_goto hX dX6_tryFrom_142 46 (by decide) ?_
              exact zg_lv _ [4, 5, 6, 7, 8, 0] rfl (ih46 (i + 1) F136 R136 _ (by omega) (by omega) (by first | exact hfr | exact hfr2) (by first | exact htt | exact htt2) (by first | exact (by rw [ord_step, if_pos h64]; exact g18) | exact g182) (by first | exact (by rw [ord_step, if_pos h64]; exact gz) | exact gz2) (by omega))
      exact zg_lv _ [1, 2, 3, 4, 5, 0] rfl (L46 _ 0 f r _ (Nat.lt_succ_self _) (by omega) (frS_rf f r) (fun _ _ => rfl) (h18) (hz) (rfl))
    · have h18a := of_decide_eq_false h18b
      have hk0 : k = 0 := by omega
      refine zg_aload_n hX 0 rfl dX6_tryFrom_21 rfl 22 rfl ?_
      refine zg_iload hX 4 rfl dX6_tryFrom_22 24 rfl ?_
      refine cp_22_4 hX mw_182 dX6_tryFrom_24 27 rfl ?_
      refine zg_aload_n hX 0 rfl dX6_tryFrom_27 rfl 28 rfl ?_
      refine cg_22_2 hX mw_180 dX6_tryFrom_28 31 rfl ?_
      refine zg_iconst hX dX6_tryFrom_31 32 rfl ?_
      refine zg_aload_n hX 0 rfl dX6_tryFrom_32 rfl 33 rfl ?_
      refine cg_22_3 hX mw_181 dX6_tryFrom_33 36 rfl ?_
      refine zg_iconst hX dX6_tryFrom_36 37 rfl ?_
      refine zg_bipush hX dX6_tryFrom_37 39 rfl (by decide) ?_
      refine zg_copy (k0 := 23) (k1 := 24) hX (cW cI q (pu f 18 (lost : Int)) (pu r 16 (fun j => if j < 6 then (r 15) j else (r 16) j))) 6 mw_521 mw_490 mw_489 mw_13 rfl rfl (by decide) (by decide) (by decide) (by omega) (Nat.le_of_ble_eq_true rfl) rfl dX6_tryFrom_39 42 rfl ?_
      exact zg_vret hX hR (Nat.le_refl _) (Nat.le_refl _) rfl dX6_tryFrom_42 (by
        have e : ordF ρ k j0 us t lost row z = (lost, row) := by rw [hk0]; simp only [ordF]; rw [if_pos (by omega)]
        rw [e]
        exact ⟨_, _, rfl, rfl, ((frS_rf f r).pf 18 _ (by omega)).pr 16 _ (by omega), fun _ _ => rfl, rfl, fun _ j hj => by rw [pu_eq, if_pos (by omega)]; exact htr j (by omega)⟩)
  · exact zg_vret hX hR (Nat.le_refl _) (Nat.le_refl _) rfl dX6_tryFrom_9 (by rw [ord_prune _ _ _ _ _ _ _ _ (by omega)]; exact ⟨f, r, rfl, rfl, frS_rf f r, fun _ _ => rfl, h18, hz⟩)
theorem TO_all (l : Launch) (D : va_G) (cI : ClassId) (q : Nat → Nat) : ∀ k, TO l D cI q k := by
  intro k
  induction k with
  | zero => exact fun f r ρ j0 us t lost row z h1 h2 h3 h4 h5 h6 h7 h8 h9 => c_X6_tryFrom l D cI q f r ρ j0 us t lost row z 0 (fun h => absurd h (Nat.lt_irrefl 0)) h1 h2 h3 h4 h5 h6 h7 h8 h9
  | succ k ih => exact fun f r ρ j0 us t lost row z h1 h2 h3 h4 h5 h6 h7 h8 h9 => c_X6_tryFrom l D cI q f r ρ j0 us t lost row z (k + 1) (fun _ => ih) h1 h2 h3 h4 h5 h6 h7 h8 h9
-- OrderSearch.run
set_option maxRecDepth 20000 in
theorem c_X6_run (l : Launch) (D : va_G) (cI : ClassId) (q : Nat → Nat) (f : Nat → Int) (r : Nat → Nat → Int) (ρ : Ru) (t : Nat → Nat) (hρ : RuOK ρ) (hc : cR f r ρ) (ht : tk ρ t) : Cn l D cI yX6_run cX6_run 2 none 10 0 0 [.ref (q 22), .int (zI (n6 t))] (cW cI q f r) (ordQ cI q f r ρ 0 (ordF ρ (rb ρ) 0 (fun _ => false) t 0 (fun _ => 0) (25, fun _ => 0))) := by
  refine Cn.of [(0, .ref (q 22)), (1, .int (zI (n6 t)))] (by decide +kernel) (Nat.le_of_ble_eq_true rfl) rfl (fun X hX hR => ?_)
  have hl9 := hρ.1
  have hn4 := hρ.2.1
  have hb6 := hρ.2.2.2.1
  refine zg_aload_n hX 0 rfl dX6_run_0 rfl 1 rfl ?_
  refine zg_bipush hX dX6_run_1 3 rfl (by decide) ?_
  refine cp_22_4 hX mw_182 dX6_run_3 6 rfl ?_
  refine zg_aload_n hX 0 rfl dX6_run_6 rfl 7 rfl ?_
  refine zg_iconst hX dX6_run_7 8 rfl ?_
  refine zg_iconst hX dX6_run_8 9 rfl ?_
  refine zg_iload_n hX 1 rfl dX6_run_9 rfl 10 rfl ?_
  refine zg_iconst hX dX6_run_10 11 rfl ?_
  refine zg_callV (As := [.int (zI 0), .int (zI 0), .int (zI (n6 t)), .int (zI 0)]) (rest := []) (k0 := 22) (ci := 5) hX (TO_all l D cI q (rb ρ) (pu f 18 25) r ρ 0 (fun _ => false) t 0 (fun _ => 0) (25, fun _ => 0) hρ (cR_fr hc ((frS_rf f r).pf 18 25 (by omega))) ht rfl (by decide) (Nat.le_refl 0) (fun h => absurd h (by decide)) (Nat.zero_add _) (fun j hj => absurd hj (Nat.not_lt_zero j))) mw_516 mw_518 mw_s6 mw_7 mw_519 sg_X6_tryFrom (by omega) (by decide) (Nat.le_refl _) (Nat.le_refl _) rfl rfl rfl (Nat.le_of_ble_eq_true rfl) dX6_run_11 14 rfl (fun v11 W11 hp11 => ?_)
  obtain ⟨F11, R11, rfl, rfl, hfr, htt, h11, hzz⟩ := hp11
  show G X 2 0 0 (cW cI q F11 R11) [(0, .ref (q 22)), (1, .int (zI (n6 t)))] 14 []
  exact zg_vret hX hR (Nat.le_refl _) (Nat.le_refl _) rfl dX6_run_14 (⟨F11, R11, rfl, rfl, ((frS_rf f r).pf 18 25 (by omega)).tr hfr, htt, h11, hzz⟩)
-- barAt
set_option maxRecDepth 20000 in
theorem c_X6_barAt (l : Launch) (D : va_G) (cI : ClassId) (q : Nat → Nat) (f : Nat → Int) (r : Nat → Nat → Int) (n B b : Nat) (row : Nat → Nat) (hn : n ≤ 24) (h1 : f 1 = (B : Int)) (hB : B ≤ 6) (hb : b ≤ 5) (hrow : n ≤ 24 → ∀ j, j < B → r 16 j = (row j : Int)) : Cn l D cI yX6_barAt cX6_barAt 2 (some .int) 1 0 0 [.ref (q 22), .int (zI (b : Int))] (cW cI q f r) (pI (if b < B then (row b : Int) else -1) (cW cI q f r)) := by
  refine Cn.of [(0, .ref (q 22)), (1, .int (zI (b : Int)))] (by decide +kernel) (Nat.le_of_ble_eq_true rfl) rfl (fun X hX hR => ?_)
  refine zg_aload_n hX 0 rfl dX6_barAt_0 rfl 1 rfl ?_
  refine cg_22_0 hX mw_178 dX6_barAt_1 4 rfl ?_
  refine zg_iload_n hX 1 rfl dX6_barAt_4 rfl 5 rfl ?_
  refine zg_callVi (As := [.int (zI (b : Int))]) (rest := []) (k0 := 3) (ci := 7) hX (c_X8_has l D cI q f r B (b : Int) h1 (by omega) (by omega)) mw_520 mw_347 mw_348 mw_3 mw_349 sg_X8_has (by decide) (by decide) (Nat.le_refl _) (Nat.le_refl _) rfl rfl rfl (Nat.le_of_ble_eq_true rfl) dX6_barAt_5 8 rfl ?_
  refine zg_ifb_eq hX dX6_barAt_8 20 (by decide) 11 rfl (fun h8 => ?_) (fun h8 => ?_)
  · have h8a := of_decide_eq_false h8
    refine zg_iconst hX dX6_barAt_20 21 rfl ?_
    exact zg_iret hX hR (Nat.le_refl _) (Nat.le_refl _) rfl dX6_barAt_21 (pI_of (by first | (rw [if_pos (by omega)]; done) | (rw [if_neg (by omega)]; done)))
  · have h8a := of_decide_eq_true h8
    refine zg_aload_n hX 0 rfl dX6_barAt_11 rfl 12 rfl ?_
    refine cg_22_3 hX mw_181 dX6_barAt_12 15 rfl ?_
    refine zg_iload_n hX 1 rfl dX6_barAt_15 rfl 16 rfl ?_
    refine ca_24 hX b (row b : Int) (by omega) (by omega) (hrow hn b (by omega)) dX6_barAt_16 17 rfl ?_
    refine zg_goto hX dX6_barAt_17 21 (by decide) ?_
    exact zg_iret hX hR (Nat.le_refl _) (Nat.le_refl _) rfl dX6_barAt_21 (pI_of (by first | (rw [if_pos (by omega)]; done) | (rw [if_neg (by omega)]; done)))
