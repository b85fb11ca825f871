theorem bzz_rng {x : Nat} (h : x ≤ 7) : -1 ≤ bzz x 7 ∧ bzz x 7 ≤ 7 := by unfold bzz; split <;> omega
theorem bzz_7 (x : Nat) : -1 ≤ bzz x 7 ∧ bzz x 7 ≤ 7 := by unfold bzz; split <;> omega
theorem bzz_25 (x : Nat) : -1 ≤ bzz x 25 ∧ bzz x 25 ≤ 25 := by unfold bzz; split <;> omega
theorem bzz_in {c : Int} (h : 0 ≤ c) (h2 : c < 7) : c = bzz c.toNat 7 := by unfold bzz; rw [if_neg (by omega)]; omega
theorem bzz_in2 {c : Nat} (h : c < 25) : (c : Int) = bzz c 25 := by unfold bzz; rw [if_neg (by omega)]
theorem cup_0 (σ : Sg) (a : Int) (h : a = 0) : (if 6 < (cupR σ).1 then -1 else if a = 0 then ((cupR σ).1 : Int) else if a - 10 < (pb (sP σ) : Int) then ((cupR σ).2 (a - 10).toNat : Int) - 1 else -1) = bzz (cupR σ).1 7 := by
  unfold bzz
  by_cases g : 6 < (cupR σ).1
  · rw [if_pos g, if_pos (by omega)]
  · rw [if_neg g, if_pos h, if_neg (by omega)]
theorem isO_f {σ : Sg} {row : Nat → Nat} {i : Nat} (e : i = pb (sP σ)) (h1 : 1 ≤ 2 ^ pb (sP σ)) (h : ¬ ((mk (uo row i) 6 : Nat) : Int) = ((2 ^ pb (sP σ) : Nat) : Int) - 1) : isO σ row = false := by
  rw [e] at h; unfold isO; generalize 2 ^ pb (sP σ) = y at *; exact decide_eq_false (by omega)
theorem isO_t {σ : Sg} {row : Nat → Nat} {i : Nat} (e : i = pb (sP σ)) (h1 : 1 ≤ 2 ^ pb (sP σ)) (h : ((mk (uo row i) 6 : Nat) : Int) = ((2 ^ pb (sP σ) : Nat) : Int) - 1) : isO σ row = true := by
  rw [e] at h; unfold isO; generalize 2 ^ pb (sP σ) = y at *; exact decide_eq_true (by omega)
theorem cA_no {ρ : Ru} {t : Nat → Nat} {u b c : Nat} (h : ¬ lo ρ b (if c = 0 then t else rf t (c - 1)) = 0) : cA ρ (t, u) b c = none := if_neg h
theorem cA_yes {ρ : Ru} {t : Nat → Nat} {u b c : Nat} (h : lo ρ b (if c = 0 then t else rf t (c - 1)) = 0) : cA ρ (t, u) b c = some (be ρ b (if c = 0 then t else rf t (c - 1)), u + min c 1) := if_pos h
theorem sg_X10_layRow : yX10_layRow.cls = RX10 ∧ yX10_layRow.cls ≠ "java/lang/invoke/MethodHandle" ∧ yX10_layRow.cls ≠ "java/lang/invoke/VarHandle" ∧ (parseMethodDescriptor yX10_layRow.desc).map (fun d => d.parameters.length) = some 2 := by decide +kernel
theorem sg_X10_codes : yX10_codes.cls = RX10 ∧ yX10_codes.cls ≠ "java/lang/invoke/MethodHandle" ∧ yX10_codes.cls ≠ "java/lang/invoke/VarHandle" ∧ (parseMethodDescriptor yX10_codes.desc).map (fun d => d.parameters.length) = some 1 := by decide +kernel
theorem sg_X10_cupsBy : yX10_cupsBy.cls = RX10 ∧ yX10_cupsBy.cls ≠ "java/lang/invoke/MethodHandle" ∧ yX10_cupsBy.cls ≠ "java/lang/invoke/VarHandle" ∧ (parseMethodDescriptor yX10_cupsBy.desc).map (fun d => d.parameters.length) = some 0 := by decide +kernel
theorem sg_X10_layCups : yX10_layCups.cls = RX10 ∧ yX10_layCups.cls ≠ "java/lang/invoke/MethodHandle" ∧ yX10_layCups.cls ≠ "java/lang/invoke/VarHandle" ∧ (parseMethodDescriptor yX10_layCups.desc).map (fun d => d.parameters.length) = some 0 := by decide +kernel
theorem sg_X10_cups : yX10_cups.cls = RX10 ∧ yX10_cups.cls ≠ "java/lang/invoke/MethodHandle" ∧ yX10_cups.cls ≠ "java/lang/invoke/VarHandle" ∧ (parseMethodDescriptor yX10_cups.desc).map (fun d => d.parameters.length) = some 1 := by decide +kernel
theorem sg_X10_isOrder : yX10_isOrder.cls = RX10 ∧ yX10_isOrder.cls ≠ "java/lang/invoke/MethodHandle" ∧ yX10_isOrder.cls ≠ "java/lang/invoke/VarHandle" ∧ (parseMethodDescriptor yX10_isOrder.desc).map (fun d => d.parameters.length) = some 0 := by decide +kernel
theorem sg_X10_order : yX10_order.cls = RX10 ∧ yX10_order.cls ≠ "java/lang/invoke/MethodHandle" ∧ yX10_order.cls ≠ "java/lang/invoke/VarHandle" ∧ (parseMethodDescriptor yX10_order.desc).map (fun d => d.parameters.length) = some 1 := by decide +kernel
-- Model.layRow
set_option maxRecDepth 20000 in
theorem c_X10_layRow (l : Launch) (D : va_G) (cI : ClassId) (q : Nat → Nat) (f : Nat → Int) (r : Nat → Nat → Int) (σ : Sg) (B : Nat) (n m : Nat) (hσ : sOK σ B) (hB : B ≤ 100) (h : MRel f r σ) (hn : n ≤ 46656) (hm : 0 < m ∧ m ≤ 6) : Cn l D cI yX10_layRow cX10_layRow 5 none 0 0 0 [.ref (q 0), .int (zI (n : Int)), .int (zI (m : Int))] (mW cI q f r) (pR (mW cI q f) (fun v r1 => v = none ∧ (∀ k, k ≠ 8 → r1 k = r k) ∧ ∀ i, i < pb (sP σ) → r1 8 i = (rwo m (pb (sP σ)) n i : Int))) := by
  refine Cn.of [(0, .ref (q 0)), (1, .int (zI (n : Int))), (2, .int (zI (m : Int)))] (by decide +kernel) (Nat.le_of_ble_eq_true rfl) rfl (fun X hX hR => ?_)
  have hsl := hσ.1
  have hg6 := hσ.2.1
  have hP := hσ.2.2.1
  have hE := hσ.2.2.2.1
  have hpb6 := hP.1
  have hpL9 := hP.2.1
  have hn4 := hE.1
  have hT6 := hE.2.2.2.2.1
  have hep := hE.2.2.2.2.2.2.2
  have hbk := hE.2.2.2.2.2.2.1
  have hs1 := hσ.2.2.2.2.2.1
  have hs2 := hσ.2.2.2.2.2.2.1
  have hs3 := hσ.2.2.2.2.2.2.2.1
  have hbd := hσ.2.2.2.2.2.2.2.2.1
  have hρ : RuOK (sr σ) := rho_OK hP hE
  have ht : tk (sr σ) (st σ) := rho_tk hE
  have hrb : rb (sr σ) = pb (sP σ) := rfl
  have hrn : rn (sr σ) = en (sE σ) := rfl
  have hrl : rl (sr σ) = pL (sP σ) := rfl
  have hm : mR f r (sr σ) := mR_of h.2.1 h.2.2.1
  refine zg_iload_n hX 1 rfl dX10_layRow_0 rfl 1 rfl ?_
  refine zg_istore_n hX [(3, .int (zI (n : Int))), (0, .ref (q 0)), (1, .int (zI (n : Int))), (2, .int (zI (m : Int)))] dX10_layRow_1 rfl (by decide) rfl 2 rfl ?_
  refine zg_aload_n hX 1 rfl dX10_layRow_2 rfl 3 rfl ?_
  refine mg_0_6 hX mw_647 (pb (sP σ) : Int) h.2.1.1 dX10_layRow_3 6 rfl ?_
  refine zg_iconst hX dX10_layRow_6 7 rfl ?_
  refine zg_isub hX dX10_layRow_7 8 rfl ?_
  refine zg_istore hX [(4, .int (zI ((pb (sP σ) : Int) - 1))), (3, .int (zI (n : Int))), (0, .ref (q 0)), (1, .int (zI (n : Int))), (2, .int (zI (m : Int)))] dX10_layRow_8 (by decide) rfl 10 rfl ?_
  have L10 : ∀ (fuel : Nat) (j : Nat) (R1 : Nat → Nat → Int) (x10_3 : Int) (x10_4 : Int), (j < fuel) → (j ≤ pb (sP σ)) → (∀ k, k ≠ 8 → R1 k = r k) → (∀ i, j ≤ i → i < pb (sP σ) → R1 8 i = (rwo m (pb (sP σ)) n i : Int)) → x10_3 = ((n / m ^ (pb (sP σ) - j) : Nat) : Int) → x10_4 = ((j : Int) - 1) → G X 5 0 0 (mW cI q f R1) [(0, .ref (q 0)), (1, .int (zI (n : Int))), (2, .int (zI (m : Int))), (3, .int (zI x10_3)), (4, .int (zI x10_4))] 10 [] := by
    intro fuel
    induction fuel with
    | zero =>
      intro j R1 x10_3 x10_4 hm10
      exact absurd hm10 (Nat.not_lt_zero _)
    | succ fuel ih10 =>
      intro j R1 x10_3 x10_4 hm10 hj hRk h8 ex10_3 ex10_4
      subst ex10_3
      subst ex10_4
      refine zg_iload hX 4 rfl dX10_layRow_10 12 rfl ?_
      refine zg_if_lt hX (by omega) dX10_layRow_12 35 (by decide) 15 rfl (fun h12 => ?_) (fun h12 => ?_)
      · exact zg_vret hX hR (Nat.le_refl _) (Nat.le_refl _) rfl dX10_layRow_35 (⟨R1, rfl, rfl, hRk, fun i hi => h8 i (by omega) hi⟩)
      · have hdv : n / m ^ (pb (sP σ) - j) ≤ n := Nat.div_le_self _ _
        have hml := Nat.mod_lt (n / m ^ (pb (sP σ) - j)) (show 0 < m by omega)
        refine zg_aload_n hX 0 rfl dX10_layRow_15 rfl 16 rfl ?_
        refine mg_0_21 hX mw_662 dX10_layRow_16 19 rfl ?_
        refine zg_iload hX 4 rfl dX10_layRow_19 21 rfl ?_
        have e21 : ((j : Int) - 1 : Int) = ((j - 1 : Nat) : Int) := by omega
        refine zg_to (lv2 := [(0, .ref (q 0)), (1, .int (zI (n : Int))), (2, .int (zI (m : Int))), (3, .int (zI ((n / m ^ (pb (sP σ) - j) : Nat) : Int))), (4, .int (zI ((j : Int) - 1)))]) (ws2 := (mW cI q f R1)) (st2 := [.int (zI ((j - 1 : Nat) : Int)), .ref (q 9)]) ?_ rfl rfl (by first | (rw [e21]; done) | (rw [← e21]; done) | (rw [← e21]; rfl))
        refine zg_iload_n hX 3 rfl dX10_layRow_21 rfl 22 rfl ?_
        refine zg_iload_n hX 2 rfl dX10_layRow_22 rfl 23 rfl ?_
        refine zg_irem hX ((n / m ^ (pb (sP σ) - j) % m : Nat) : Int) (by rw [zI_z, zI_eq (by omega) (by omega)]; omega) (pk_rem (by omega) (by omega) (by omega)) dX10_layRow_23 24 rfl ?_
        refine ms_9 hX (j - 1) (by omega) (by omega) dX10_layRow_24 25 rfl ?_
        refine zg_iload_n hX 3 rfl dX10_layRow_25 rfl 26 rfl ?_
        refine zg_iload_n hX 2 rfl dX10_layRow_26 rfl 27 rfl ?_
        refine zg_idiv hX ((n / m ^ (pb (sP σ) - j) / m : Nat) : Int) (by rw [zI_z, zI_eq (by omega) (by omega)]; omega) (pk_div (by omega) (by omega) (by omega)) dX10_layRow_27 28 rfl ?_
        refine zg_istore_n hX [(3, .int (zI ((n / m ^ (pb (sP σ) - j) / m : Nat) : Int))), (0, .ref (q 0)), (1, .int (zI (n : Int))), (2, .int (zI (m : Int))), (4, .int (zI ((j : Int) - 1)))] dX10_layRow_28 rfl (by decide) rfl 29 rfl ?_
        refine zg_iinc hX [(4, .int (zI (((j : Int) - 1) + (-1)))), (3, .int (zI ((n / m ^ (pb (sP σ) - j) / m : Nat) : Int))), (0, .ref (q 0)), (1, .int (zI (n : Int))), (2, .int (zI (m : Int)))] 4 rfl dX10_layRow_29 (by decide) rfl 32 rfl ?_
        refine zg_goto hX dX10_layRow_32 10 (by decide) ?_
        exact zg_lv _ [2, 3, 4, 1, 0] rfl (ih10 (j - 1) (pu R1 8 (pu (R1 8) (j - 1) ((n / m ^ (pb (sP σ) - j) % m : Nat) : Int))) _ _ (by omega) (by omega) (fun k hk => by rw [pu_ne _ _ hk]; exact hRk k hk) (fun i a b => by
            rw [pu_eq, pu_at]
            by_cases e : i = j - 1
            · rw [if_pos e, e]; unfold rwo; rw [if_pos (by omega), show pb (sP σ) - 1 - (j - 1) = pb (sP σ) - j by omega]
            · rw [if_neg e]; exact h8 i (by omega) b) (by rw [Nat.div_div_eq_div_mul, show pb (sP σ) - (j - 1) = pb (sP σ) - j + 1 by omega, Nat.pow_succ]) (by omega))
  exact zg_lv _ [2, 3, 4, 1, 0] rfl (L10 _ (pb (sP σ)) r _ _ (Nat.lt_succ_self _) (by omega) (fun _ _ => rfl) (fun i a b => absurd b (by omega)) (by rw [Nat.sub_self, Nat.pow_zero, Nat.div_one]) (rfl))
-- Model.codes
set_option maxRecDepth 20000 in
theorem c_X10_codes (l : Launch) (D : va_G) (cI : ClassId) (q : Nat → Nat) (f : Nat → Int) (r : Nat → Nat → Int) (σ : Sg) (B : Nat) (m : Nat) (hσ : sOK σ B) (hB : B ≤ 100) (h : MRel f r σ) (hm : 0 < m ∧ m ≤ 6) : Cn l D cI yX10_codes cX10_codes 4 (some .int) 0 0 0 [.ref (q 0), .int (zI (m : Int))] (mW cI q f r) (pI ((m ^ pb (sP σ) : Nat) : Int) (mW cI q f r)) := by
  refine Cn.of [(0, .ref (q 0)), (1, .int (zI (m : Int)))] (by decide +kernel) (Nat.le_of_ble_eq_true rfl) rfl (fun X hX hR => ?_)
  have hsl := hσ.1
  have hg6 := hσ.2.1
  have hP := hσ.2.2.1
  have hE := hσ.2.2.2.1
  have hpb6 := hP.1
  have hpL9 := hP.2.1
  have hn4 := hE.1
  have hT6 := hE.2.2.2.2.1
  have hep := hE.2.2.2.2.2.2.2
  have hbk := hE.2.2.2.2.2.2.1
  have hs1 := hσ.2.2.2.2.2.1
  have hs2 := hσ.2.2.2.2.2.2.1
  have hs3 := hσ.2.2.2.2.2.2.2.1
  have hbd := hσ.2.2.2.2.2.2.2.2.1
  have hρ : RuOK (sr σ) := rho_OK hP hE
  have ht : tk (sr σ) (st σ) := rho_tk hE
  have hrb : rb (sr σ) = pb (sP σ) := rfl
  have hrn : rn (sr σ) = en (sE σ) := rfl
  have hrl : rl (sr σ) = pL (sP σ) := rfl
  have hm : mR f r (sr σ) := mR_of h.2.1 h.2.2.1
  refine zg_iconst hX dX10_codes_0 1 rfl ?_
  refine zg_istore_n hX [(2, .int (zI 1)), (0, .ref (q 0)), (1, .int (zI (m : Int)))] dX10_codes_1 rfl (by decide) rfl 2 rfl ?_
  refine zg_iconst hX dX10_codes_2 3 rfl ?_
  refine zg_istore_n hX [(3, .int (zI 0)), (2, .int (zI 1)), (0, .ref (q 0)), (1, .int (zI (m : Int)))] dX10_codes_3 rfl (by decide) rfl 4 rfl ?_
  have L4 : ∀ (fuel : Nat) (i : Nat) (x4_2 : Int) (x4_3 : Int), (pb (sP σ) - i < fuel) → (i ≤ pb (sP σ)) → x4_2 = ((m ^ i : Nat) : Int) → x4_3 = (i : Int) → G X 4 0 0 (mW cI q f r) [(0, .ref (q 0)), (1, .int (zI (m : Int))), (2, .int (zI x4_2)), (3, .int (zI x4_3))] 4 [] := by
    intro fuel
    induction fuel with
    | zero =>
      intro i x4_2 x4_3 hm4
      exact absurd hm4 (Nat.not_lt_zero _)
    | succ fuel ih4 =>
      intro i x4_2 x4_3 hm4 hi ex4_2 ex4_3
      subst ex4_2
      subst ex4_3
      refine zg_iload_n hX 3 rfl dX10_codes_4 rfl 5 rfl ?_
      refine zg_aload_n hX 0 rfl dX10_codes_5 rfl 6 rfl ?_
      refine mg_0_6 hX mw_647 (pb (sP σ) : Int) h.2.1.1 dX10_codes_6 9 rfl ?_
      refine zg_icmp_ge hX (by omega) (by omega) dX10_codes_9 22 (by decide) 12 rfl (fun h9 => ?_) (fun h9 => ?_)
      · refine zg_iload_n hX 2 rfl dX10_codes_22 rfl 23 rfl ?_
        exact zg_iret hX hR (Nat.le_refl _) (Nat.le_refl _) rfl dX10_codes_23 (pI_of (by rw [show i = pb (sP σ) by omega]))
      · refine zg_iload_n hX 2 rfl dX10_codes_12 rfl 13 rfl ?_
        refine zg_iload_n hX 1 rfl dX10_codes_13 rfl 14 rfl ?_
        refine zg_imul hX dX10_codes_14 15 rfl ?_
        refine zg_istore_n hX [(2, .int (zI (((m ^ i : Nat) : Int) * (m : Int)))), (0, .ref (q 0)), (1, .int (zI (m : Int))), (3, .int (zI (i : Int)))] dX10_codes_15 rfl (by decide) rfl 16 rfl ?_
        refine zg_iinc hX [(3, .int (zI ((i : Int) + 1))), (2, .int (zI (((m ^ i : Nat) : Int) * (m : Int)))), (0, .ref (q 0)), (1, .int (zI (m : Int)))] 3 rfl dX10_codes_16 (by decide) rfl 19 rfl ?_
        refine zg_goto hX dX10_codes_19 4 (by decide) ?_
        exact zg_lv _ [2, 3, 1, 0] rfl (ih4 (i + 1) _ _ (by omega) (by omega) ((Int.natCast_mul _ _).symm) (by omega))
  exact zg_lv _ [2, 3, 1, 0] rfl (L4 _ 0 _ _ (Nat.lt_succ_self _) (by omega) (rfl) (rfl))
-- Model.cupsBy
set_option maxRecDepth 20000 in
theorem c_X10_cupsBy (l : Launch) (D : va_G) (cI : ClassId) (q : Nat → Nat) (f : Nat → Int) (r : Nat → Nat → Int) (σ : Sg) (B : Nat) (row : Nat → Nat) (hσ : sOK σ B) (hB : B ≤ 100) (h : MRel f r σ) (hrow2 : ∀ i, i < pb (sP σ) → r 8 i = (row i : Int)) (hrow : ∀ i, i < pb (sP σ) → row i ≤ en (sE σ)) : Cn l D cI yX10_cupsBy cX10_cupsBy 4 (some .int) 6 0 0 [.ref (q 0)] (mW cI q f r) (pR (mW cI q f) (fun v r1 => v = some (.int (zI (cpv σ row))) ∧ ∀ k, k ≠ 5 → k ≠ 6 → k ≠ 7 → r1 k = r k)) := by
  refine Cn.of [(0, .ref (q 0))] (by decide +kernel) (Nat.le_of_ble_eq_true rfl) rfl (fun X hX hR => ?_)
  have hsl := hσ.1
  have hg6 := hσ.2.1
  have hP := hσ.2.2.1
  have hE := hσ.2.2.2.1
  have hpb6 := hP.1
  have hpL9 := hP.2.1
  have hn4 := hE.1
  have hT6 := hE.2.2.2.2.1
  have hep := hE.2.2.2.2.2.2.2
  have hbk := hE.2.2.2.2.2.2.1
  have hs1 := hσ.2.2.2.2.2.1
  have hs2 := hσ.2.2.2.2.2.2.1
  have hs3 := hσ.2.2.2.2.2.2.2.1
  have hbd := hσ.2.2.2.2.2.2.2.2.1
  have hρ : RuOK (sr σ) := rho_OK hP hE
  have ht : tk (sr σ) (st σ) := rho_tk hE
  have hrb : rb (sr σ) = pb (sP σ) := rfl
  have hrn : rn (sr σ) = en (sE σ) := rfl
  have hrl : rl (sr σ) = pL (sP σ) := rfl
  have hm : mR f r (sr σ) := mR_of h.2.1 h.2.2.1
  refine zg_aload_n hX 0 rfl dX10_cupsBy_0 rfl 1 rfl ?_
  refine zg_callV (As := []) (rest := []) (k0 := 0) (ci := 9) hX (c_X10_asItIs l D cI q f r (sr σ) hρ (mR_of h.2.1 h.2.2.1)) mw_797 mw_799 mw_s17 mw_10 mw_800 sg_X10_asItIs (by decide) (by decide) (Nat.le_refl _) (Nat.le_refl _) rfl rfl rfl (Nat.le_of_ble_eq_true rfl) dX10_cupsBy_1 4 rfl (fun v1 W1 hp1 => ?_)
  obtain ⟨R1, rfl, rfl, hl1⟩ := hp1
  show G X 4 0 0 (mW cI q f R1) [(0, .ref (q 0))] 4 []
  have hx1 : frR r R1 := frR_lay hl1 (by omega)
  have hr1 : MRel f R1 σ := MRel_r h hx1
  have hn1 : ∀ p, p < rn (sr σ) → R1 5 p = (st σ p : Int) := fun p hp => (hl1.2 p hp).trans (h.2.2.1.2.2.2.2.2.1 p hp)
  have hm1 : mR f R1 (sr σ) := mR_of hr1.2.1 hr1.2.2.1
  refine zg_iconst hX dX10_cupsBy_4 5 rfl ?_
  refine zg_istore_n hX [(1, .int (zI 0)), (0, .ref (q 0))] dX10_cupsBy_5 rfl (by decide) rfl 6 rfl ?_
  refine zg_iconst hX dX10_cupsBy_6 7 rfl ?_
  refine zg_istore_n hX [(2, .int (zI 1)), (1, .int (zI 0)), (0, .ref (q 0))] dX10_cupsBy_7 rfl (by decide) rfl 8 rfl ?_
  refine zg_iconst hX dX10_cupsBy_8 9 rfl ?_
  refine zg_istore_n hX [(3, .int (zI 0)), (2, .int (zI 1)), (1, .int (zI 0)), (0, .ref (q 0))] dX10_cupsBy_9 rfl (by decide) rfl 10 rfl ?_
  have L10 : ∀ (fuel : Nat) (b : Nat) (R2 : Nat → Nat → Int) (u : Nat) (t : Nat → Nat) (ok : Bool) (x10_1 : Int) (x10_2 : Int) (x10_3 : Int), (pb (sP σ) - b < fuel) → (b ≤ pb (sP σ)) → (∀ k, k ≠ 5 → k ≠ 6 → k ≠ 7 → R2 k = r k) → (MRel f R2 σ) → (ok = true → gR (cA (sr σ)) (st σ, 0) row b = some (t, u) ∧ (∀ p, p < rn (sr σ) → R2 5 p = (t p : Int)) ∧ tk (sr σ) t) → (ok = false → gR (cA (sr σ)) (st σ, 0) row (pb (sP σ)) = none) → x10_1 = (u : Int) → x10_2 = (b2 ok) → x10_3 = (b : Int) → G X 4 0 0 (mW cI q f R2) [(0, .ref (q 0)), (1, .int (zI x10_1)), (2, .int (zI x10_2)), (3, .int (zI x10_3))] 10 [] := by
    intro fuel
    induction fuel with
    | zero =>
      intro b R2 u t ok x10_1 x10_2 x10_3 hm10
      exact absurd hm10 (Nat.not_lt_zero _)
    | succ fuel ih10 =>
      intro b R2 u t ok x10_1 x10_2 x10_3 hm10 hb hR2 hr2 hst hno ex10_1 ex10_2 ex10_3
      subst ex10_1
      subst ex10_2
      subst ex10_3
      refine zg_iload_n hX 3 rfl dX10_cupsBy_10 rfl 11 rfl ?_
      refine zg_aload_n hX 0 rfl dX10_cupsBy_11 rfl 12 rfl ?_
      refine mg_0_6 hX mw_647 (pb (sP σ) : Int) h.2.1.1 dX10_cupsBy_12 15 rfl ?_
      refine zg_icmp_ge hX (by omega) (by omega) dX10_cupsBy_15 66 (by decide) 18 rfl (fun h15 => ?_) (fun h15 => ?_)
      · refine zg_iload_n hX 2 rfl dX10_cupsBy_66 rfl 67 rfl ?_
        refine zg_ifb_eq hX dX10_cupsBy_67 74 (by decide) 70 rfl (fun h67 => ?_) (fun h67 => ?_)
        · refine zg_iconst hX dX10_cupsBy_74 75 rfl ?_
          exact zg_iret hX hR (Nat.le_refl _) (Nat.le_refl _) rfl dX10_cupsBy_75 (by first | exact absurd (show ok = true by assumption) (by rw [show ok = false by assumption]; decide) | exact ⟨R2, rfl, by unfold cpv; rw [show pb (sP σ) = b by omega, (hst (by assumption)).1], hR2⟩ | exact ⟨R2, rfl, by unfold cpv; rw [hno (by assumption)], hR2⟩)
        · refine zg_iload_n hX 1 rfl dX10_cupsBy_70 rfl 71 rfl ?_
          refine zg_goto hX dX10_cupsBy_71 75 (by decide) ?_
          exact zg_iret hX hR (Nat.le_refl _) (Nat.le_refl _) rfl dX10_cupsBy_75 (by first | exact absurd (show ok = true by assumption) (by rw [show ok = false by assumption]; decide) | exact ⟨R2, rfl, by unfold cpv; rw [show pb (sP σ) = b by omega, (hst (by assumption)).1], hR2⟩ | exact ⟨R2, rfl, by unfold cpv; rw [hno (by assumption)], hR2⟩)
      · refine zg_iload_n hX 2 rfl dX10_cupsBy_18 rfl 19 rfl ?_
        refine zg_ifb_eq hX dX10_cupsBy_19 66 (by decide) 22 rfl (fun h19 => ?_) (fun h19 => ?_)
        · refine zg_iload_n hX 2 rfl dX10_cupsBy_66 rfl 67 rfl ?_
          refine zg_ifb_eq hX dX10_cupsBy_67 74 (by decide) 70 rfl (fun h67 => ?_) (fun h67 => ?_)
          · refine zg_iconst hX dX10_cupsBy_74 75 rfl ?_
            exact zg_iret hX hR (Nat.le_refl _) (Nat.le_refl _) rfl dX10_cupsBy_75 (by first | exact absurd (show ok = true by assumption) (by rw [show ok = false by assumption]; decide) | exact ⟨R2, rfl, by unfold cpv; rw [show pb (sP σ) = b by omega, (hst (by assumption)).1], hR2⟩ | exact ⟨R2, rfl, by unfold cpv; rw [hno (by assumption)], hR2⟩)
          · refine zg_iload_n hX 1 rfl dX10_cupsBy_70 rfl 71 rfl ?_
            refine zg_goto hX dX10_cupsBy_71 75 (by decide) ?_
            exact zg_iret hX hR (Nat.le_refl _) (Nat.le_refl _) rfl dX10_cupsBy_75 (by first | exact absurd (show ok = true by assumption) (by rw [show ok = false by assumption]; decide) | exact ⟨R2, rfl, by unfold cpv; rw [show pb (sP σ) = b by omega, (hst (by assumption)).1], hR2⟩ | exact ⟨R2, rfl, by unfold cpv; rw [hno (by assumption)], hR2⟩)
        · have hs := hst h19
          have hrb2 := hrow b (by omega)
          have hrk : R2 8 b = (row b : Int) := by rw [hR2 8 (by decide) (by decide) (by decide)]; exact hrow2 b (by omega)
          refine zg_aload_n hX 0 rfl dX10_cupsBy_22 rfl 23 rfl ?_
          refine mg_0_21 hX mw_662 dX10_cupsBy_23 26 rfl ?_
          refine zg_iload_n hX 3 rfl dX10_cupsBy_26 rfl 27 rfl ?_
          refine ma_9 hX b (row b : Int) (by omega) (by omega) hrk dX10_cupsBy_27 28 rfl ?_
          refine zg_if_le hX (by omega) dX10_cupsBy_28 46 (by decide) 31 rfl (fun h28 => ?_) (fun h28 => ?_)
          · have hT : (if row b = 0 then t else rf t (row b - 1)) = t := by rw [if_pos (by omega)]
            have hn9 : ∀ p, p < rn (sr σ) → R2 5 p = ((if row b = 0 then t else rf t (row b - 1)) p : Int) := by rw [hT]; exact hs.2.1
            have ht9 : tk (sr σ) (if row b = 0 then t else rf t (row b - 1)) := by rw [hT]; exact hs.2.2
            have hr9 : MRel f R2 σ := hr2
            have hR9 : ∀ k, k ≠ 5 → k ≠ 6 → k ≠ 7 → R2 k = r k := hR2
            have hu9 : (u : Int) = ((u + min (row b) 1 : Nat) : Int) := by omega
            refine zg_aload_n hX 0 rfl dX10_cupsBy_46 rfl 47 rfl ?_
            refine zg_iload_n hX 3 rfl dX10_cupsBy_47 rfl 48 rfl ?_
            refine zg_callV (As := [.int (zI (b : Int))]) (rest := []) (k0 := 0) (ci := 9) hX (c_X10_plays l D cI q f R2 (sr σ) (if row b = 0 then t else rf t (row b - 1)) b hρ (mR_of hr9.2.1 hr9.2.2.1) hn9 ht9 (by omega)) mw_805 mw_807 mw_s19 mw_10 mw_808 sg_X10_plays (by decide) (by decide) (Nat.le_refl _) (Nat.le_refl _) rfl rfl rfl (Nat.le_of_ble_eq_true rfl) dX10_cupsBy_48 51 rfl (fun v48 W48 hp48 => ?_)
            obtain ⟨R48, rfl, rfl, hf48, hs48, -⟩ := hp48
            show G X 4 0 0 (mW cI q f R48) [(0, .ref (q 0)), (1, .int (zI (u : Int))), (2, .int (zI (b2 ok))), (3, .int (zI (b : Int)))] 51 [.int (zI (lo (sr σ) b (if row b = 0 then t else rf t (row b - 1)) : Int))]
            have hlo := lo_le (sr σ) b (if row b = 0 then t else rf t (row b - 1)) hρ
            have hpp := hρ.2.2.2.2.2 b
            have hgs : gR (cA (sr σ)) (st σ, 0) row (b + 1) = cA (sr σ) (t, u) b (row b) := by simp only [gR]; rw [hs.1]
            refine zg_if_ne hX (by omega) dX10_cupsBy_51 58 (by decide) 54 rfl (fun h51 => ?_) (fun h51 => ?_)
            · have hgn : gR (cA (sr σ)) (st σ, 0) row (b + 1) = none := by rw [hgs]; exact cA_no (by omega)
              refine zg_iconst hX dX10_cupsBy_58 59 rfl ?_
              refine zg_istore_n hX [(2, .int (zI 0)), (0, .ref (q 0)), (1, .int (zI (u : Int))), (3, .int (zI (b : Int)))] dX10_cupsBy_59 rfl (by decide) rfl 60 rfl ?_
              refine zg_iinc hX [(3, .int (zI ((b : Int) + 1))), (2, .int (zI 0)), (0, .ref (q 0)), (1, .int (zI (u : Int)))] 3 rfl dX10_cupsBy_60 (by decide) rfl 63 rfl ?_
              refine zg_goto hX dX10_cupsBy_63 10 (by decide) ?_
              exact zg_lv _ [2, 3, 1, 0] rfl (ih10 (b + 1) R48 (u + min (row b) 1) (be (sr σ) b (if row b = 0 then t else rf t (row b - 1))) false _ _ _ (by omega) (by omega) (fun k a b c => (hf48 k a b c).trans (hR9 k a b c)) (MRel_r hr9 (frR_567 hf48)) (by first | exact (fun _ => ⟨hgy, hs48, tk_be _ _ _⟩) | exact (fun e => absurd e (by decide))) (by first | exact (fun e => absurd e (by decide)) | exact (fun _ => gR_none hgn _ (by omega))) (by first | exact hu9 | omega) (rfl) (by omega))
            · have hgy : gR (cA (sr σ)) (st σ, 0) row (b + 1) = some (be (sr σ) b (if row b = 0 then t else rf t (row b - 1)), u + min (row b) 1) := by rw [hgs]; exact cA_yes (by omega)
              refine zg_iconst hX dX10_cupsBy_54 55 rfl ?_
              refine zg_goto hX dX10_cupsBy_55 59 (by decide) ?_
              refine zg_istore_n hX [(2, .int (zI 1)), (0, .ref (q 0)), (1, .int (zI (u : Int))), (3, .int (zI (b : Int)))] dX10_cupsBy_59 rfl (by decide) rfl 60 rfl ?_
              refine zg_iinc hX [(3, .int (zI ((b : Int) + 1))), (2, .int (zI 1)), (0, .ref (q 0)), (1, .int (zI (u : Int)))] 3 rfl dX10_cupsBy_60 (by decide) rfl 63 rfl ?_
              refine zg_goto hX dX10_cupsBy_63 10 (by decide) ?_
              exact zg_lv _ [2, 3, 1, 0] rfl (ih10 (b + 1) R48 (u + min (row b) 1) (be (sr σ) b (if row b = 0 then t else rf t (row b - 1))) true _ _ _ (by omega) (by omega) (fun k a b c => (hf48 k a b c).trans (hR9 k a b c)) (MRel_r hr9 (frR_567 hf48)) (by first | exact (fun _ => ⟨hgy, hs48, tk_be _ _ _⟩) | exact (fun e => absurd e (by decide))) (by first | exact (fun e => absurd e (by decide)) | exact (fun _ => gR_none hgn _ (by omega))) (by first | exact hu9 | omega) (rfl) (by omega))
          · have hT : (if row b = 0 then t else rf t (row b - 1)) = rf t (row b - 1) := by rw [if_neg (by omega)]
            refine zg_aload_n hX 0 rfl dX10_cupsBy_31 rfl 32 rfl ?_
            refine zg_aload_n hX 0 rfl dX10_cupsBy_32 rfl 33 rfl ?_
            refine mg_0_21 hX mw_662 dX10_cupsBy_33 36 rfl ?_
            refine zg_iload_n hX 3 rfl dX10_cupsBy_36 rfl 37 rfl ?_
            refine ma_9 hX b (row b : Int) (by omega) (by omega) hrk dX10_cupsBy_37 38 rfl ?_
            refine zg_iconst hX dX10_cupsBy_38 39 rfl ?_
            refine zg_isub hX dX10_cupsBy_39 40 rfl ?_
            have e40 : ((row b : Int) - 1 : Int) = ((row b - 1 : Nat) : Int) := by omega
            refine zg_to (lv2 := [(0, .ref (q 0)), (1, .int (zI (u : Int))), (2, .int (zI (b2 ok))), (3, .int (zI (b : Int)))]) (ws2 := (mW cI q f R2)) (st2 := [.int (zI ((row b - 1 : Nat) : Int)), .ref (q 0)]) ?_ rfl rfl (by first | (rw [e40]; done) | (rw [← e40]; done) | (rw [← e40]; rfl))
            refine zg_callV (As := [.int (zI ((row b - 1 : Nat) : Int))]) (rest := []) (k0 := 0) (ci := 9) hX (c_X10_drinks l D cI q f R2 (sr σ) t (row b - 1) hρ (mR_of hr2.2.1 hr2.2.2.1) hs.2.1 hs.2.2 (by omega)) mw_856 mw_858 mw_s28 mw_10 mw_859 sg_X10_drinks (by decide) (by decide) (Nat.le_refl _) (Nat.le_refl _) rfl rfl rfl (Nat.le_of_ble_eq_true rfl) dX10_cupsBy_40 43 rfl (fun v40 W40 hp40 => ?_)
            obtain ⟨R40, rfl, rfl, hf40, hs40⟩ := hp40
            show G X 4 0 0 (mW cI q f R40) [(0, .ref (q 0)), (1, .int (zI (u : Int))), (2, .int (zI (b2 ok))), (3, .int (zI (b : Int)))] 43 []
            have hn9 : ∀ p, p < rn (sr σ) → R40 5 p = ((if row b = 0 then t else rf t (row b - 1)) p : Int) := by rw [hT]; exact hs40
            have ht9 : tk (sr σ) (if row b = 0 then t else rf t (row b - 1)) := by rw [hT]; exact tk_rf hs.2.2 (by omega)
            have hr9 : MRel f R40 σ := MRel_r hr2 (frR_1 hf40 (by omega))
            have hR9 : ∀ k, k ≠ 5 → k ≠ 6 → k ≠ 7 → R40 k = r k := fun k a b c => (hf40 k a).trans (hR2 k a b c)
            have hu9 : (u : Int) + 1 = ((u + min (row b) 1 : Nat) : Int) := by omega
            refine zg_iinc hX [(1, .int (zI ((u : Int) + 1))), (0, .ref (q 0)), (2, .int (zI (b2 ok))), (3, .int (zI (b : Int)))] 1 rfl dX10_cupsBy_43 (by decide) rfl 46 rfl ?_
            refine zg_aload_n hX 1 rfl dX10_cupsBy_46 rfl 47 rfl ?_
            refine zg_iload_n hX 3 rfl dX10_cupsBy_47 rfl 48 rfl ?_
            refine zg_callV (As := [.int (zI (b : Int))]) (rest := []) (k0 := 0) (ci := 9) hX (c_X10_plays l D cI q f R40 (sr σ) (if row b = 0 then t else rf t (row b - 1)) b hρ (mR_of hr9.2.1 hr9.2.2.1) hn9 ht9 (by omega)) mw_805 mw_807 mw_s19 mw_10 mw_808 sg_X10_plays (by decide) (by decide) (Nat.le_refl _) (Nat.le_refl _) rfl rfl rfl (Nat.le_of_ble_eq_true rfl) dX10_cupsBy_48 51 rfl (fun v48 W48 hp48 => ?_)
            obtain ⟨R48, rfl, rfl, hf48, hs48, -⟩ := hp48
            show G X 4 0 0 (mW cI q f R48) [(1, .int (zI ((u : Int) + 1))), (0, .ref (q 0)), (2, .int (zI (b2 ok))), (3, .int (zI (b : Int)))] 51 [.int (zI (lo (sr σ) b (if row b = 0 then t else rf t (row b - 1)) : Int))]
            have hlo := lo_le (sr σ) b (if row b = 0 then t else rf t (row b - 1)) hρ
            have hpp := hρ.2.2.2.2.2 b
            have hgs : gR (cA (sr σ)) (st σ, 0) row (b + 1) = cA (sr σ) (t, u) b (row b) := by simp only [gR]; rw [hs.1]
            refine zg_if_ne hX (by omega) dX10_cupsBy_51 58 (by decide) 54 rfl (fun h51 => ?_) (fun h51 => ?_)
            · have hgn : gR (cA (sr σ)) (st σ, 0) row (b + 1) = none := by rw [hgs]; exact cA_no (by omega)
              refine zg_iconst hX dX10_cupsBy_58 59 rfl ?_
              refine zg_istore_n hX [(2, .int (zI 0)), (1, .int (zI ((u : Int) + 1))), (0, .ref (q 0)), (3, .int (zI (b : Int)))] dX10_cupsBy_59 rfl (by decide) rfl 60 rfl ?_
              refine zg_iinc hX [(3, .int (zI ((b : Int) + 1))), (2, .int (zI 0)), (1, .int (zI ((u : Int) + 1))), (0, .ref (q 0))] 3 rfl dX10_cupsBy_60 (by decide) rfl 63 rfl ?_
              refine zg_goto hX dX10_cupsBy_63 10 (by decide) ?_
              exact zg_lv _ [3, 2, 1, 0] rfl (ih10 (b + 1) R48 (u + min (row b) 1) (be (sr σ) b (if row b = 0 then t else rf t (row b - 1))) false _ _ _ (by omega) (by omega) (fun k a b c => (hf48 k a b c).trans (hR9 k a b c)) (MRel_r hr9 (frR_567 hf48)) (by first | exact (fun _ => ⟨hgy, hs48, tk_be _ _ _⟩) | exact (fun e => absurd e (by decide))) (by first | exact (fun e => absurd e (by decide)) | exact (fun _ => gR_none hgn _ (by omega))) (by first | exact hu9 | omega) (rfl) (by omega))
            · have hgy : gR (cA (sr σ)) (st σ, 0) row (b + 1) = some (be (sr σ) b (if row b = 0 then t else rf t (row b - 1)), u + min (row b) 1) := by rw [hgs]; exact cA_yes (by omega)
              refine zg_iconst hX dX10_cupsBy_54 55 rfl ?_
              refine zg_goto hX dX10_cupsBy_55 59 (by decide) ?_
              refine zg_istore_n hX [(2, .int (zI 1)), (1, .int (zI ((u : Int) + 1))), (0, .ref (q 0)), (3, .int (zI (b : Int)))] dX10_cupsBy_59 rfl (by decide) rfl 60 rfl ?_
              refine zg_iinc hX [(3, .int (zI ((b : Int) + 1))), (2, .int (zI 1)), (1, .int (zI ((u : Int) + 1))), (0, .ref (q 0))] 3 rfl dX10_cupsBy_60 (by decide) rfl 63 rfl ?_
              refine zg_goto hX dX10_cupsBy_63 10 (by decide) ?_
              exact zg_lv _ [3, 2, 1, 0] rfl (ih10 (b + 1) R48 (u + min (row b) 1) (be (sr σ) b (if row b = 0 then t else rf t (row b - 1))) true _ _ _ (by omega) (by omega) (fun k a b c => (hf48 k a b c).trans (hR9 k a b c)) (MRel_r hr9 (frR_567 hf48)) (by first | exact (fun _ => ⟨hgy, hs48, tk_be _ _ _⟩) | exact (fun e => absurd e (by decide))) (by first | exact (fun e => absurd e (by decide)) | exact (fun _ => gR_none hgn _ (by omega))) (by first | exact hu9 | omega) (rfl) (by omega))
  exact zg_lv _ [3, 2, 1, 0] rfl (L10 _ 0 R1 0 (st σ) true _ _ _ (Nat.lt_succ_self _) (by omega) (fun k a _ _ => hl1.1 k a) (hr1) (fun _ => ⟨rfl, hn1, ht⟩) (fun e => absurd e (by decide)) (rfl) (rfl) (rfl))
-- Model.layCups
set_option maxRecDepth 20000 in
theorem c_X10_layCups (l : Launch) (D : va_G) (cI : ClassId) (q : Nat → Nat) (f : Nat → Int) (r : Nat → Nat → Int) (σ : Sg) (B : Nat)  (hσ : sOK σ B) (hB : B ≤ 100) (h : MRel f r σ) : Cn l D cI yX10_layCups cX10_layCups 4 (some .int) 7 0 0 [.ref (q 0)] (mW cI q f r) (pR (mW cI q f) (fun v r1 => v = some (.int (zI (bzz (cupR σ).1 7))) ∧ frR r r1 ∧ ((cupR σ).1 < 7 → ∀ i, i < pb (sP σ) → r1 9 i = ((cupR σ).2 i : Int)))) := by
  refine Cn.of [(0, .ref (q 0))] (by decide +kernel) (Nat.le_of_ble_eq_true rfl) rfl (fun X hX hR => ?_)
  have hsl := hσ.1
  have hg6 := hσ.2.1
  have hP := hσ.2.2.1
  have hE := hσ.2.2.2.1
  have hpb6 := hP.1
  have hpL9 := hP.2.1
  have hn4 := hE.1
  have hT6 := hE.2.2.2.2.1
  have hep := hE.2.2.2.2.2.2.2
  have hbk := hE.2.2.2.2.2.2.1
  have hs1 := hσ.2.2.2.2.2.1
  have hs2 := hσ.2.2.2.2.2.2.1
  have hs3 := hσ.2.2.2.2.2.2.2.1
  have hbd := hσ.2.2.2.2.2.2.2.2.1
  have hρ : RuOK (sr σ) := rho_OK hP hE
  have ht : tk (sr σ) (st σ) := rho_tk hE
  have hrb : rb (sr σ) = pb (sP σ) := rfl
  have hrn : rn (sr σ) = en (sE σ) := rfl
  have hrl : rl (sr σ) = pL (sP σ) := rfl
  have hm : mR f r (sr σ) := mR_of h.2.1 h.2.2.1
  have hp6 := pow_6 (m := en (sE σ) + 1) (b := pb (sP σ)) (by omega) (by omega) hpb6
  refine zg_iconst hX dX10_layCups_0 1 rfl ?_
  refine zg_istore_n hX [(1, .int (zI (-1))), (0, .ref (q 0))] dX10_layCups_1 rfl (by decide) rfl 2 rfl ?_
  refine zg_iconst hX dX10_layCups_2 3 rfl ?_
  refine zg_istore_n hX [(2, .int (zI 0)), (1, .int (zI (-1))), (0, .ref (q 0))] dX10_layCups_3 rfl (by decide) rfl 4 rfl ?_
  have L4 : ∀ (fuel : Nat) (n : Nat) (R1 : Nat → Nat → Int) (x4_1 : Int) (x4_2 : Int), ((en (sE σ) + 1) ^ pb (sP σ) - n < fuel) → (n ≤ (en (sE σ) + 1) ^ pb (sP σ)) → (frR r R1) → (MRel f R1 σ) → ((cZ σ n).1 ≤ 7) → (-1 ≤ bzz (cZ σ n).1 7 ∧ bzz (cZ σ n).1 7 ≤ 7) → ((cZ σ n).1 < 7 → ∀ i, i < pb (sP σ) → R1 9 i = ((cZ σ n).2 i : Int)) → x4_1 = (bzz (cZ σ n).1 7) → x4_2 = (n : Int) → G X 4 0 0 (mW cI q f R1) [(0, .ref (q 0)), (1, .int (zI x4_1)), (2, .int (zI x4_2))] 4 [] := by
    intro fuel
    induction fuel with
    | zero =>
      intro n R1 x4_1 x4_2 hm4
      exact absurd hm4 (Nat.not_lt_zero _)
    | succ fuel ih4 =>
      intro n R1 x4_1 x4_2 hm4 hn hx1 hr1 hz7 hbr h9 ex4_1 ex4_2
      subst ex4_1
      subst ex4_2
      refine zg_iload_n hX 2 rfl dX10_layCups_4 rfl 5 rfl ?_
      refine zg_aload_n hX 0 rfl dX10_layCups_5 rfl 6 rfl ?_
      refine zg_aload_n hX 0 rfl dX10_layCups_6 rfl 7 rfl ?_
      refine mg_0_12 hX mw_653 (en (sE σ) : Int) hr1.2.2.1.1 dX10_layCups_7 10 rfl ?_
      refine zg_iconst hX dX10_layCups_10 11 rfl ?_
      refine zg_iadd hX dX10_layCups_11 12 rfl ?_
      have e12 : ((en (sE σ) : Int) + 1 : Int) = ((en (sE σ) + 1 : Nat) : Int) := by omega
      refine zg_to (lv2 := [(0, .ref (q 0)), (1, .int (zI (bzz (cZ σ n).1 7))), (2, .int (zI (n : Int)))]) (ws2 := (mW cI q f R1)) (st2 := [.int (zI ((en (sE σ) + 1 : Nat) : Int)), .ref (q 0), .int (zI (n : Int))]) ?_ rfl rfl (by first | (rw [e12]; done) | (rw [← e12]; done) | (rw [← e12]; rfl))
      refine zg_callVi (As := [.int (zI ((en (sE σ) + 1 : Nat) : Int))]) (rest := [.int (zI (n : Int))]) (k0 := 0) (ci := 9) hX (c_X10_codes l D cI q f R1 σ B (en (sE σ) + 1) hσ hB hr1 (by omega)) mw_894 mw_896 mw_s32 mw_10 mw_897 sg_X10_codes (by decide) (by decide) (Nat.le_refl _) (Nat.le_refl _) rfl rfl rfl (Nat.le_of_ble_eq_true rfl) dX10_layCups_12 15 rfl ?_
      refine zg_icmp_ge hX (by omega) (by omega) dX10_layCups_15 68 (by decide) 18 rfl (fun h15 => ?_) (fun h15 => ?_)
      · refine zg_iload_n hX 1 rfl dX10_layCups_68 rfl 69 rfl ?_
        exact zg_iret hX hR (Nat.le_refl _) (Nat.le_refl _) rfl dX10_layCups_69 (⟨R1, rfl, by rw [cupR_Z, show (en (sE σ) + 1) ^ pb (sP σ) = n by omega], hx1, by rw [cupR_Z, show (en (sE σ) + 1) ^ pb (sP σ) = n by omega]; exact h9⟩)
      · refine zg_aload_n hX 0 rfl dX10_layCups_18 rfl 19 rfl ?_
        refine zg_iload_n hX 2 rfl dX10_layCups_19 rfl 20 rfl ?_
        refine zg_aload_n hX 0 rfl dX10_layCups_20 rfl 21 rfl ?_
        refine mg_0_12 hX mw_653 (en (sE σ) : Int) hr1.2.2.1.1 dX10_layCups_21 24 rfl ?_
        refine zg_iconst hX dX10_layCups_24 25 rfl ?_
        refine zg_iadd hX dX10_layCups_25 26 rfl ?_
        have e26 : ((en (sE σ) : Int) + 1 : Int) = ((en (sE σ) + 1 : Nat) : Int) := by omega
        refine zg_to (lv2 := [(0, .ref (q 0)), (1, .int (zI (bzz (cZ σ n).1 7))), (2, .int (zI (n : Int)))]) (ws2 := (mW cI q f R1)) (st2 := [.int (zI ((en (sE σ) + 1 : Nat) : Int)), .int (zI (n : Int)), .ref (q 0)]) ?_ rfl rfl (by first | (rw [e26]; done) | (rw [← e26]; done) | (rw [← e26]; rfl))
        refine zg_callV (As := [.int (zI (n : Int)), .int (zI ((en (sE σ) + 1 : Nat) : Int))]) (rest := []) (k0 := 0) (ci := 9) hX (c_X10_layRow l D cI q f R1 σ B n (en (sE σ) + 1) hσ hB hr1 (by omega) (by omega)) mw_898 mw_900 mw_s33 mw_10 mw_901 sg_X10_layRow (by decide) (by decide) (Nat.le_refl _) (Nat.le_refl _) rfl rfl rfl (Nat.le_of_ble_eq_true rfl) dX10_layCups_26 29 rfl (fun v26 W26 hp26 => ?_)
        obtain ⟨R26, rfl, rfl, hk26, h826⟩ := hp26
        show G X 4 0 0 (mW cI q f R26) [(0, .ref (q 0)), (1, .int (zI (bzz (cZ σ n).1 7))), (2, .int (zI (n : Int)))] 29 []
        have hx26 : frR r R26 := hx1.tr (frR_1 hk26 (by omega))
        have hr26 : MRel f R26 σ := MRel_r h hx26
        refine zg_aload_n hX 0 rfl dX10_layCups_29 rfl 30 rfl ?_
        refine zg_callV (As := []) (rest := []) (k0 := 0) (ci := 9) hX (c_X10_cupsBy l D cI q f R26 σ B (rwo (en (sE σ) + 1) (pb (sP σ)) n) hσ hB hr26 h826 (fun i _ => by have := rwo_lt (m := en (sE σ) + 1) (B := pb (sP σ)) (n := n) (by omega) i; omega)) mw_902 mw_904 mw_s34 mw_10 mw_905 sg_X10_cupsBy (by decide) (by decide) (Nat.le_refl _) (Nat.le_refl _) rfl rfl rfl (Nat.le_of_ble_eq_true rfl) dX10_layCups_30 33 rfl (fun v30 W30 hp30 => ?_)
        obtain ⟨R30, rfl, rfl, hk30⟩ := hp30
        show G X 4 0 0 (mW cI q f R30) [(0, .ref (q 0)), (1, .int (zI (bzz (cZ σ n).1 7))), (2, .int (zI (n : Int)))] 33 [.int (zI (cpv σ (rwo (en (sE σ) + 1) (pb (sP σ)) n)))]
        have hx30 : frR r R30 := hx26.tr (frR_567 hk30)
        have hr30 : MRel f R30 σ := MRel_r h hx30
        have hcr := cpv_rng σ (rwo (en (sE σ) + 1) (pb (sP σ)) n)
        have h930 : R30 9 = R1 9 := by rw [hk30 9 (by decide) (by decide) (by decide), hk26 9 (by decide)]
        have h830 : ∀ i, i < pb (sP σ) → R30 8 i = (rwo (en (sE σ) + 1) (pb (sP σ)) n i : Int) := fun i hi => by rw [hk30 8 (by decide) (by decide) (by decide)]; exact h826 i hi
        refine zg_istore_n hX [(3, .int (zI (cpv σ (rwo (en (sE σ) + 1) (pb (sP σ)) n)))), (0, .ref (q 0)), (1, .int (zI (bzz (cZ σ n).1 7))), (2, .int (zI (n : Int)))] dX10_layCups_33 rfl (by decide) rfl 34 rfl ?_
        refine zg_iload_n hX 0 rfl dX10_layCups_34 rfl 35 rfl ?_
        refine zg_iconst hX dX10_layCups_35 36 rfl ?_
        refine zg_icmp_eq hX (by omega) (by omega) dX10_layCups_36 62 (by decide) 39 rfl (fun h36 => ?_) (fun h36 => ?_)
        · have hz : cZ σ (n + 1) = cZ σ n := cZ_no h36
          refine zg_iinc hX [(2, .int (zI ((n : Int) + 1))), (3, .int (zI (cpv σ (rwo (en (sE σ) + 1) (pb (sP σ)) n)))), (0, .ref (q 0)), (1, .int (zI (bzz (cZ σ n).1 7)))] 3 rfl dX10_layCups_62 (by decide) rfl 65 rfl ?_
          refine zg_goto hX dX10_layCups_65 4 (by decide) ?_
          exact zg_lv _ [2, 3, 0] rfl (ih4 (n + 1) R30 _ _ (by omega) (by omega) (by first | exact hx59 | exact hx30) (by first | exact MRel_r h hx59 | exact hr30) (by first | (rw [hz]; exact hz7) | (rw [hz1]; omega)) (bzz_7 _) (by first | (rw [hz, h930]; exact h9) | exact (fun _ i hi => by rw [hz2, hl59.2 i (by omega)]; exact h830 i hi)) (by first | (rw [hz]; done) | (rw [hz1]; exact bzz_in (by omega) (by omega))) (by omega))
        · have hy := cZ_yes h36
          refine zg_iload_n hX 2 rfl dX10_layCups_39 rfl 40 rfl ?_
          refine zg_iconst hX dX10_layCups_40 41 rfl ?_
          refine zg_icmp_eq hX (by omega) (by omega) dX10_layCups_41 49 (by decide) 44 rfl (fun h41 => ?_) (fun h41 => ?_)
          · have hb7 : (cZ σ n).1 = 7 := by unfold bzz at h41; revert h41; split <;> omega
            have hlt : cpv σ (rwo (en (sE σ) + 1) (pb (sP σ)) n) < ((cZ σ n).1 : Int) := by omega
            have hz2 : cZ σ (n + 1) = ((cpv σ (rwo (en (sE σ) + 1) (pb (sP σ)) n)).toNat, rwo (en (sE σ) + 1) (pb (sP σ)) n) := by rw [hy, if_pos hlt]
            have hz1 : (cZ σ (n + 1)).1 = (cpv σ (rwo (en (sE σ) + 1) (pb (sP σ)) n)).toNat := by rw [hz2]
            refine zg_iload_n hX 0 rfl dX10_layCups_49 rfl 50 rfl ?_
            refine zg_istore_n hX [(1, .int (zI (cpv σ (rwo (en (sE σ) + 1) (pb (sP σ)) n)))), (3, .int (zI (cpv σ (rwo (en (sE σ) + 1) (pb (sP σ)) n)))), (0, .ref (q 0)), (2, .int (zI (n : Int)))] dX10_layCups_50 rfl (by decide) rfl 51 rfl ?_
            refine zg_aload_n hX 2 rfl dX10_layCups_51 rfl 52 rfl ?_
            refine mg_0_21 hX mw_662 dX10_layCups_52 55 rfl ?_
            refine zg_aload_n hX 2 rfl dX10_layCups_55 rfl 56 rfl ?_
            refine mg_0_22 hX mw_663 dX10_layCups_56 59 rfl ?_
            refine zg_callS (As := [.ref (q 9), .ref (q 10)]) (rest := []) hX (c_X10_copy_8_9 l D cI q f R30) mw_774 mw_775 mw_10 mw_776 sg_X10_copy.2 (by decide) (by decide) (Nat.le_refl _) (Nat.le_refl _) rfl (Nat.le_of_ble_eq_true rfl) dX10_layCups_59 62 rfl (fun v59 W59 hp59 => ?_)
            obtain ⟨R59, rfl, rfl, hl59⟩ := hp59
            show G X 4 0 0 (mW cI q f R59) [(1, .int (zI (cpv σ (rwo (en (sE σ) + 1) (pb (sP σ)) n)))), (3, .int (zI (cpv σ (rwo (en (sE σ) + 1) (pb (sP σ)) n)))), (0, .ref (q 0)), (2, .int (zI (n : Int)))] 62 []
            have hx59 : frR r R59 := hx30.tr (frR_lay hl59 (by omega))
            refine zg_iinc hX [(2, .int (zI ((n : Int) + 1))), (1, .int (zI (cpv σ (rwo (en (sE σ) + 1) (pb (sP σ)) n)))), (3, .int (zI (cpv σ (rwo (en (sE σ) + 1) (pb (sP σ)) n)))), (0, .ref (q 0))] 3 rfl dX10_layCups_62 (by decide) rfl 65 rfl ?_
            refine zg_goto hX dX10_layCups_65 4 (by decide) ?_
            exact zg_lv _ [3, 1, 0] rfl (ih4 (n + 1) R59 _ _ (by omega) (by omega) (by first | exact hx59 | exact hx30) (by first | exact MRel_r h hx59 | exact hr30) (by first | (rw [hz]; exact hz7) | (rw [hz1]; omega)) (bzz_7 _) (by first | (rw [hz, h930]; exact h9) | exact (fun _ i hi => by rw [hz2, hl59.2 i (by omega)]; exact h830 i hi)) (by first | (rw [hz]; done) | (rw [hz1]; exact bzz_in (by omega) (by omega))) (by omega))
          · have hb7 : bzz (cZ σ n).1 7 = ((cZ σ n).1 : Int) := by unfold bzz at h41 ⊢; revert h41; split <;> omega
            refine zg_iload_n hX 0 rfl dX10_layCups_44 rfl 45 rfl ?_
            refine zg_iload_n hX 2 rfl dX10_layCups_45 rfl 46 rfl ?_
            refine zg_icmp_ge hX (by omega) (by omega) dX10_layCups_46 62 (by decide) 49 rfl (fun h46 => ?_) (fun h46 => ?_)
            · have hz : cZ σ (n + 1) = cZ σ n := by rw [hy, if_neg (by omega)]
              refine zg_iinc hX [(2, .int (zI ((n : Int) + 1))), (3, .int (zI (cpv σ (rwo (en (sE σ) + 1) (pb (sP σ)) n)))), (0, .ref (q 0)), (1, .int (zI (bzz (cZ σ n).1 7)))] 3 rfl dX10_layCups_62 (by decide) rfl 65 rfl ?_
              refine zg_goto hX dX10_layCups_65 4 (by decide) ?_
              exact zg_lv _ [2, 3, 0] rfl (ih4 (n + 1) R30 _ _ (by omega) (by omega) (by first | exact hx59 | exact hx30) (by first | exact MRel_r h hx59 | exact hr30) (by first | (rw [hz]; exact hz7) | (rw [hz1]; omega)) (bzz_7 _) (by first | (rw [hz, h930]; exact h9) | exact (fun _ i hi => by rw [hz2, hl59.2 i (by omega)]; exact h830 i hi)) (by first | (rw [hz]; done) | (rw [hz1]; exact bzz_in (by omega) (by omega))) (by omega))
            · have hlt : cpv σ (rwo (en (sE σ) + 1) (pb (sP σ)) n) < ((cZ σ n).1 : Int) := by omega
              have hz2 : cZ σ (n + 1) = ((cpv σ (rwo (en (sE σ) + 1) (pb (sP σ)) n)).toNat, rwo (en (sE σ) + 1) (pb (sP σ)) n) := by rw [hy, if_pos hlt]
              have hz1 : (cZ σ (n + 1)).1 = (cpv σ (rwo (en (sE σ) + 1) (pb (sP σ)) n)).toNat := by rw [hz2]
              refine zg_iload_n hX 0 rfl dX10_layCups_49 rfl 50 rfl ?_
              refine zg_istore_n hX [(1, .int (zI (cpv σ (rwo (en (sE σ) + 1) (pb (sP σ)) n)))), (3, .int (zI (cpv σ (rwo (en (sE σ) + 1) (pb (sP σ)) n)))), (0, .ref (q 0)), (2, .int (zI (n : Int)))] dX10_layCups_50 rfl (by decide) rfl 51 rfl ?_
              refine zg_aload_n hX 2 rfl dX10_layCups_51 rfl 52 rfl ?_
              refine mg_0_21 hX mw_662 dX10_layCups_52 55 rfl ?_
              refine zg_aload_n hX 2 rfl dX10_layCups_55 rfl 56 rfl ?_
              refine mg_0_22 hX mw_663 dX10_layCups_56 59 rfl ?_
              refine zg_callS (As := [.ref (q 9), .ref (q 10)]) (rest := []) hX (c_X10_copy_8_9 l D cI q f R30) mw_774 mw_775 mw_10 mw_776 sg_X10_copy.2 (by decide) (by decide) (Nat.le_refl _) (Nat.le_refl _) rfl (Nat.le_of_ble_eq_true rfl) dX10_layCups_59 62 rfl (fun v59 W59 hp59 => ?_)
              obtain ⟨R59, rfl, rfl, hl59⟩ := hp59
              show G X 4 0 0 (mW cI q f R59) [(1, .int (zI (cpv σ (rwo (en (sE σ) + 1) (pb (sP σ)) n)))), (3, .int (zI (cpv σ (rwo (en (sE σ) + 1) (pb (sP σ)) n)))), (0, .ref (q 0)), (2, .int (zI (n : Int)))] 62 []
              have hx59 : frR r R59 := hx30.tr (frR_lay hl59 (by omega))
              refine zg_iinc hX [(2, .int (zI ((n : Int) + 1))), (1, .int (zI (cpv σ (rwo (en (sE σ) + 1) (pb (sP σ)) n)))), (3, .int (zI (cpv σ (rwo (en (sE σ) + 1) (pb (sP σ)) n)))), (0, .ref (q 0))] 3 rfl dX10_layCups_62 (by decide) rfl 65 rfl ?_
              refine zg_goto hX dX10_layCups_65 4 (by decide) ?_
              exact zg_lv _ [3, 1, 0] rfl (ih4 (n + 1) R59 _ _ (by omega) (by omega) (by first | exact hx59 | exact hx30) (by first | exact MRel_r h hx59 | exact hr30) (by first | (rw [hz]; exact hz7) | (rw [hz1]; omega)) (bzz_7 _) (by first | (rw [hz, h930]; exact h9) | exact (fun _ i hi => by rw [hz2, hl59.2 i (by omega)]; exact h830 i hi)) (by first | (rw [hz]; done) | (rw [hz1]; exact bzz_in (by omega) (by omega))) (by omega))
  exact zg_lv _ [2, 1, 0] rfl (L4 _ 0 r _ _ (Nat.lt_succ_self _) (by omega) (frR_rf r) (h) (Nat.le_refl 7) (bzz_7 _) (fun e => absurd (show 7 < 7 from e) (by decide)) (rfl) (rfl))
-- Model.cups
set_option maxRecDepth 20000 in
theorem c_X10_cups (l : Launch) (D : va_G) (cI : ClassId) (q : Nat → Nat) (f : Nat → Int) (r : Nat → Nat → Int) (σ : Sg) (B : Nat) (a : Int) (hσ : sOK σ B) (hB : B ≤ 100) (h : MRel f r σ) (ha : -2147483648 ≤ a ∧ a < 2147483648) : Cn l D cI yX10_cups cX10_cups 3 (some .int) 8 0 0 [.ref (q 0), .int (zI a)] (mW cI q f r) (qM cI q (o_cups σ a)) := by
  refine Cn.of [(0, .ref (q 0)), (1, .int (zI a))] (by decide +kernel) (Nat.le_of_ble_eq_true rfl) rfl (fun X hX hR => ?_)
  have hsl := hσ.1
  have hg6 := hσ.2.1
  have hP := hσ.2.2.1
  have hE := hσ.2.2.2.1
  have hpb6 := hP.1
  have hpL9 := hP.2.1
  have hn4 := hE.1
  have hT6 := hE.2.2.2.2.1
  have hep := hE.2.2.2.2.2.2.2
  have hbk := hE.2.2.2.2.2.2.1
  have hs1 := hσ.2.2.2.2.2.1
  have hs2 := hσ.2.2.2.2.2.2.1
  have hs3 := hσ.2.2.2.2.2.2.2.1
  have hbd := hσ.2.2.2.2.2.2.2.2.1
  have hρ : RuOK (sr σ) := rho_OK hP hE
  have ht : tk (sr σ) (st σ) := rho_tk hE
  have hrb : rb (sr σ) = pb (sP σ) := rfl
  have hrn : rn (sr σ) = en (sE σ) := rfl
  have hrl : rl (sr σ) = pL (sP σ) := rfl
  have hm : mR f r (sr σ) := mR_of h.2.1 h.2.2.1
  refine zg_iload_n hX 1 rfl dX10_cups_0 rfl 1 rfl ?_
  refine zg_if_eq hX (by omega) dX10_cups_1 21 (by decide) 4 rfl (fun h1 => ?_) (fun h1 => ?_)
  · refine zg_aload_n hX 0 rfl dX10_cups_21 rfl 22 rfl ?_
    refine zg_callVi (As := []) (rest := []) (k0 := 0) (ci := 9) hX (c_X10_lacks l D cI q f r (sr σ) hρ hm) mw_781 mw_783 mw_s14 mw_10 mw_784 sg_X10_lacks (by decide) (by decide) (Nat.le_refl _) (Nat.le_refl _) rfl rfl rfl (Nat.le_of_ble_eq_true rfl) dX10_cups_22 25 rfl ?_
    refine zg_ifb_ne hX dX10_cups_25 37 (by decide) 28 rfl (fun h25 => ?_) (fun h25 => ?_)
    · have hlk := of_decide_eq_true h25
      refine zg_bipush hX dX10_cups_37 39 rfl (by decide) ?_
      exact zg_iret hX hR (Nat.le_refl _) (Nat.le_refl _) rfl dX10_cups_39 (qM_ret (by unfold o_cups; rw [if_pos (by omega), if_pos (by omega)]) h)
    · have hlk := of_decide_eq_false h25
      refine zg_aload_n hX 0 rfl dX10_cups_28 rfl 29 rfl ?_
      refine mg_0_19 hX mw_660 (s2 σ : Int) h.2.2.2.2.2.1 dX10_cups_29 32 rfl ?_
      refine zg_bipush hX dX10_cups_32 34 rfl (by decide) ?_
      refine zg_icmp_ne hX (by omega) (by omega) dX10_cups_34 40 (by decide) 37 rfl (fun h34 => ?_) (fun h34 => ?_)
      · refine zg_aload_n hX 0 rfl dX10_cups_40 rfl 41 rfl ?_
        refine zg_dup hX rfl dX10_cups_41 42 rfl ?_
        refine mg_0_19 hX mw_660 (s2 σ : Int) h.2.2.2.2.2.1 dX10_cups_42 45 rfl ?_
        refine zg_iconst hX dX10_cups_45 46 rfl ?_
        refine zg_iadd hX dX10_cups_46 47 rfl ?_
        refine mp_0_19 hX mw_660 dX10_cups_47 50 rfl ?_
        refine zg_aload_n hX 0 rfl dX10_cups_50 rfl 51 rfl ?_
        have hsc : sOK (withC σ (s2 σ + 1) (s3 σ)) B := ⟨hσ.1, hσ.2.1, hσ.2.2.1, hσ.2.2.2.1, hσ.2.2.2.2.1, hs1, by show s2 σ + 1 ≤ 12; omega, hσ.2.2.2.2.2.2.2⟩
        have hmc := m_cups h
        refine zg_callV (As := []) (rest := []) (k0 := 0) (ci := 9) hX (c_X10_layCups l D cI q (pu f 11 ((s2 σ : Int) + 1)) r (withC σ (s2 σ + 1) (s3 σ)) B hsc hB hmc) mw_890 mw_892 mw_s31 mw_10 mw_893 sg_X10_layCups (by decide) (by decide) (Nat.le_refl _) (Nat.le_refl _) rfl rfl rfl (Nat.le_of_ble_eq_true rfl) dX10_cups_51 54 rfl (fun v51 W51 hp51 => ?_)
        obtain ⟨R51, rfl, rfl, hf51, h951⟩ := hp51
        show G X 3 0 0 (mW cI q (pu f 11 ((s2 σ : Int) + 1)) R51) [(0, .ref (q 0)), (1, .int (zI a))] 54 [.int (zI (bzz (cupR σ).1 7))]
        have hr51 := MRel_r hmc hf51
        have hbr : -1 ≤ bzz (cupR σ).1 7 ∧ bzz (cupR σ).1 7 ≤ 7 := bzz_7 _
        have h951 : (cupR σ).1 < 7 → ∀ i, i < pb (sP σ) → R51 9 i = ((cupR σ).2 i : Int) := h951
        refine zg_istore_n hX [(2, .int (zI (bzz (cupR σ).1 7))), (0, .ref (q 0)), (1, .int (zI a))] dX10_cups_54 rfl (by decide) rfl 55 rfl ?_
        refine zg_iload_n hX 2 rfl dX10_cups_55 rfl 56 rfl ?_
        refine zg_if_eq hX (by omega) dX10_cups_56 64 (by decide) 59 rfl (fun h56 => ?_) (fun h56 => ?_)
        · refine zg_iload_n hX 0 rfl dX10_cups_64 rfl 65 rfl ?_
          refine zg_goto hX dX10_cups_65 94 (by decide) ?_
          exact zg_iret hX hR (Nat.le_refl _) (Nat.le_refl _) rfl dX10_cups_94 (qM_ret (by unfold o_cups cupA; rw [if_pos (by omega), if_neg (by omega)]; first | (rw [if_pos (by omega), show bzz (cupR σ).1 7 = -1 by (unfold bzz; rw [if_pos (by omega)])]; done) | (rw [if_neg (by omega), if_neg (by omega), if_pos (by omega)]; done) | (rw [if_neg (by omega), if_neg (by omega), if_neg (by omega)]; done) | (rw [cup_0 σ _ (by omega)])) hr51)
        · refine zg_iload_n hX 0 rfl dX10_cups_59 rfl 60 rfl ?_
          refine zg_iconst hX dX10_cups_60 61 rfl ?_
          refine zg_icmp_ne hX (by omega) (by omega) dX10_cups_61 68 (by decide) 64 rfl (fun h61 => ?_) (fun h61 => ?_)
          · have hbm : (cupR σ).1 < 7 := by unfold bzz at h61; revert h61; split <;> omega
            refine zg_iload_n hX 2 rfl dX10_cups_68 rfl 69 rfl ?_
            refine zg_bipush hX dX10_cups_69 71 rfl (by decide) ?_
            refine zg_isub hX dX10_cups_71 72 rfl ?_
            refine zg_aload_n hX 1 rfl dX10_cups_72 rfl 73 rfl ?_
            refine mg_0_6 hX mw_647 (pb (sP σ) : Int) h.2.1.1 dX10_cups_73 76 rfl ?_
            refine zg_icmp_ge hX (by omega) (by omega) dX10_cups_76 93 (by decide) 79 rfl (fun h76 => ?_) (fun h76 => ?_)
            · refine zg_iconst hX dX10_cups_93 94 rfl ?_
              exact zg_iret hX hR (Nat.le_refl _) (Nat.le_refl _) rfl dX10_cups_94 (qM_ret (by unfold o_cups cupA; rw [if_pos (by omega), if_neg (by omega)]; first | (rw [if_pos (by omega), show bzz (cupR σ).1 7 = -1 by (unfold bzz; rw [if_pos (by omega)])]; done) | (rw [if_neg (by omega), if_neg (by omega), if_pos (by omega)]; done) | (rw [if_neg (by omega), if_neg (by omega), if_neg (by omega)]; done) | (rw [cup_0 σ _ (by omega)])) hr51)
            · refine zg_aload_n hX 1 rfl dX10_cups_79 rfl 80 rfl ?_
              refine mg_0_22 hX mw_663 dX10_cups_80 83 rfl ?_
              refine zg_iload_n hX 2 rfl dX10_cups_83 rfl 84 rfl ?_
              refine zg_bipush hX dX10_cups_84 86 rfl (by decide) ?_
              refine zg_isub hX dX10_cups_86 87 rfl ?_
              have e87 : (a - 10 : Int) = (((a - 10).toNat : Nat) : Int) := by omega
              refine zg_to (lv2 := [(2, .int (zI (bzz (cupR σ).1 7))), (0, .ref (q 0)), (1, .int (zI a))]) (ws2 := (mW cI q (pu f 11 ((s2 σ : Int) + 1)) R51)) (st2 := [.int (zI (((a - 10).toNat : Nat) : Int)), .ref (q 10)]) ?_ rfl rfl (by first | (rw [e87]; done) | (rw [← e87]; done) | (rw [← e87]; rfl))
              refine ma_10 hX ((a - 10).toNat) ((cupR σ).2 (a - 10).toNat : Int) (by omega) (by omega) (h951 hbm _ (by omega)) dX10_cups_87 88 rfl ?_
              refine zg_iconst hX dX10_cups_88 89 rfl ?_
              refine zg_isub hX dX10_cups_89 90 rfl ?_
              refine zg_goto hX dX10_cups_90 94 (by decide) ?_
              exact zg_iret hX hR (Nat.le_refl _) (Nat.le_refl _) rfl dX10_cups_94 (qM_ret (by unfold o_cups cupA; rw [if_pos (by omega), if_neg (by omega)]; first | (rw [if_pos (by omega), show bzz (cupR σ).1 7 = -1 by (unfold bzz; rw [if_pos (by omega)])]; done) | (rw [if_neg (by omega), if_neg (by omega), if_pos (by omega)]; done) | (rw [if_neg (by omega), if_neg (by omega), if_neg (by omega)]; done) | (rw [cup_0 σ _ (by omega)])) hr51)
          · have hbm : 7 ≤ (cupR σ).1 := by unfold bzz at h61; revert h61; split <;> omega
            refine zg_iload_n hX 0 rfl dX10_cups_64 rfl 65 rfl ?_
            refine zg_goto hX dX10_cups_65 94 (by decide) ?_
            exact zg_iret hX hR (Nat.le_refl _) (Nat.le_refl _) rfl dX10_cups_94 (qM_ret (by unfold o_cups cupA; rw [if_pos (by omega), if_neg (by omega)]; first | (rw [if_pos (by omega), show bzz (cupR σ).1 7 = -1 by (unfold bzz; rw [if_pos (by omega)])]; done) | (rw [if_neg (by omega), if_neg (by omega), if_pos (by omega)]; done) | (rw [if_neg (by omega), if_neg (by omega), if_neg (by omega)]; done) | (rw [cup_0 σ _ (by omega)])) hr51)
      · refine zg_bipush hX dX10_cups_37 39 rfl (by decide) ?_
        exact zg_iret hX hR (Nat.le_refl _) (Nat.le_refl _) rfl dX10_cups_39 (qM_ret (by unfold o_cups; rw [if_pos (by omega), if_pos (by omega)]) h)
  · refine zg_iload_n hX 1 rfl dX10_cups_4 rfl 5 rfl ?_
    refine zg_i2l hX (by omega) dX10_cups_5 6 rfl ?_
    refine zg_ldc2 (a := 10) hX mw_888 (by decide) dX10_cups_6 9 rfl ?_
    refine zg_ldc2 (a := 15) hX mw_889 (by decide) dX10_cups_9 12 rfl ?_
    refine zg_callSi (As := [.long (zL a), .long (zL 10), .long (zL 15)]) (rest := []) hX (c_X10_in l D cI _ a 10 15 (by omega) (by omega) (by omega)) mw_746 mw_747 mw_10 mw_748 sg_X10_in.2 (by decide) (by decide) (Nat.le_refl _) (Nat.le_refl _) rfl (Nat.le_of_ble_eq_true rfl) dX10_cups_12 15 rfl ?_
    refine zg_ifb_ne hX dX10_cups_15 21 (by decide) 18 rfl (fun h15 => ?_) (fun h15 => ?_)
    · have h15a := of_decide_eq_true h15
      refine zg_aload_n hX 0 rfl dX10_cups_21 rfl 22 rfl ?_
      refine zg_callVi (As := []) (rest := []) (k0 := 0) (ci := 9) hX (c_X10_lacks l D cI q f r (sr σ) hρ hm) mw_781 mw_783 mw_s14 mw_10 mw_784 sg_X10_lacks (by decide) (by decide) (Nat.le_refl _) (Nat.le_refl _) rfl rfl rfl (Nat.le_of_ble_eq_true rfl) dX10_cups_22 25 rfl ?_
      refine zg_ifb_ne hX dX10_cups_25 37 (by decide) 28 rfl (fun h25 => ?_) (fun h25 => ?_)
      · have hlk := of_decide_eq_true h25
        refine zg_bipush hX dX10_cups_37 39 rfl (by decide) ?_
        exact zg_iret hX hR (Nat.le_refl _) (Nat.le_refl _) rfl dX10_cups_39 (qM_ret (by unfold o_cups; rw [if_pos (by omega), if_pos (by omega)]) h)
      · have hlk := of_decide_eq_false h25
        refine zg_aload_n hX 0 rfl dX10_cups_28 rfl 29 rfl ?_
        refine mg_0_19 hX mw_660 (s2 σ : Int) h.2.2.2.2.2.1 dX10_cups_29 32 rfl ?_
        refine zg_bipush hX dX10_cups_32 34 rfl (by decide) ?_
        refine zg_icmp_ne hX (by omega) (by omega) dX10_cups_34 40 (by decide) 37 rfl (fun h34 => ?_) (fun h34 => ?_)
        · refine zg_aload_n hX 0 rfl dX10_cups_40 rfl 41 rfl ?_
          refine zg_dup hX rfl dX10_cups_41 42 rfl ?_
          refine mg_0_19 hX mw_660 (s2 σ : Int) h.2.2.2.2.2.1 dX10_cups_42 45 rfl ?_
          refine zg_iconst hX dX10_cups_45 46 rfl ?_
          refine zg_iadd hX dX10_cups_46 47 rfl ?_
          refine mp_0_19 hX mw_660 dX10_cups_47 50 rfl ?_
          refine zg_aload_n hX 0 rfl dX10_cups_50 rfl 51 rfl ?_
          have hsc : sOK (withC σ (s2 σ + 1) (s3 σ)) B := ⟨hσ.1, hσ.2.1, hσ.2.2.1, hσ.2.2.2.1, hσ.2.2.2.2.1, hs1, by show s2 σ + 1 ≤ 12; omega, hσ.2.2.2.2.2.2.2⟩
          have hmc := m_cups h
          refine zg_callV (As := []) (rest := []) (k0 := 0) (ci := 9) hX (c_X10_layCups l D cI q (pu f 11 ((s2 σ : Int) + 1)) r (withC σ (s2 σ + 1) (s3 σ)) B hsc hB hmc) mw_890 mw_892 mw_s31 mw_10 mw_893 sg_X10_layCups (by decide) (by decide) (Nat.le_refl _) (Nat.le_refl _) rfl rfl rfl (Nat.le_of_ble_eq_true rfl) dX10_cups_51 54 rfl (fun v51 W51 hp51 => ?_)
          obtain ⟨R51, rfl, rfl, hf51, h951⟩ := hp51
          show G X 3 0 0 (mW cI q (pu f 11 ((s2 σ : Int) + 1)) R51) [(0, .ref (q 0)), (1, .int (zI a))] 54 [.int (zI (bzz (cupR σ).1 7))]
          have hr51 := MRel_r hmc hf51
          have hbr : -1 ≤ bzz (cupR σ).1 7 ∧ bzz (cupR σ).1 7 ≤ 7 := bzz_7 _
          have h951 : (cupR σ).1 < 7 → ∀ i, i < pb (sP σ) → R51 9 i = ((cupR σ).2 i : Int) := h951
          refine zg_istore_n hX [(2, .int (zI (bzz (cupR σ).1 7))), (0, .ref (q 0)), (1, .int (zI a))] dX10_cups_54 rfl (by decide) rfl 55 rfl ?_
          refine zg_iload_n hX 2 rfl dX10_cups_55 rfl 56 rfl ?_
          refine zg_if_eq hX (by omega) dX10_cups_56 64 (by decide) 59 rfl (fun h56 => ?_) (fun h56 => ?_)
          · refine zg_iload_n hX 0 rfl dX10_cups_64 rfl 65 rfl ?_
            refine zg_goto hX dX10_cups_65 94 (by decide) ?_
            exact zg_iret hX hR (Nat.le_refl _) (Nat.le_refl _) rfl dX10_cups_94 (qM_ret (by unfold o_cups cupA; rw [if_pos (by omega), if_neg (by omega)]; first | (rw [if_pos (by omega), show bzz (cupR σ).1 7 = -1 by (unfold bzz; rw [if_pos (by omega)])]; done) | (rw [if_neg (by omega), if_neg (by omega), if_pos (by omega)]; done) | (rw [if_neg (by omega), if_neg (by omega), if_neg (by omega)]; done) | (rw [cup_0 σ _ (by omega)])) hr51)
          · refine zg_iload_n hX 0 rfl dX10_cups_59 rfl 60 rfl ?_
            refine zg_iconst hX dX10_cups_60 61 rfl ?_
            refine zg_icmp_ne hX (by omega) (by omega) dX10_cups_61 68 (by decide) 64 rfl (fun h61 => ?_) (fun h61 => ?_)
            · have hbm : (cupR σ).1 < 7 := by unfold bzz at h61; revert h61; split <;> omega
              refine zg_iload_n hX 2 rfl dX10_cups_68 rfl 69 rfl ?_
              refine zg_bipush hX dX10_cups_69 71 rfl (by decide) ?_
              refine zg_isub hX dX10_cups_71 72 rfl ?_
              refine zg_aload_n hX 1 rfl dX10_cups_72 rfl 73 rfl ?_
              refine mg_0_6 hX mw_647 (pb (sP σ) : Int) h.2.1.1 dX10_cups_73 76 rfl ?_
              refine zg_icmp_ge hX (by omega) (by omega) dX10_cups_76 93 (by decide) 79 rfl (fun h76 => ?_) (fun h76 => ?_)
              · refine zg_iconst hX dX10_cups_93 94 rfl ?_
                exact zg_iret hX hR (Nat.le_refl _) (Nat.le_refl _) rfl dX10_cups_94 (qM_ret (by unfold o_cups cupA; rw [if_pos (by omega), if_neg (by omega)]; first | (rw [if_pos (by omega), show bzz (cupR σ).1 7 = -1 by (unfold bzz; rw [if_pos (by omega)])]; done) | (rw [if_neg (by omega), if_neg (by omega), if_pos (by omega)]; done) | (rw [if_neg (by omega), if_neg (by omega), if_neg (by omega)]; done) | (rw [cup_0 σ _ (by omega)])) hr51)
              · refine zg_aload_n hX 1 rfl dX10_cups_79 rfl 80 rfl ?_
                refine mg_0_22 hX mw_663 dX10_cups_80 83 rfl ?_
                refine zg_iload_n hX 2 rfl dX10_cups_83 rfl 84 rfl ?_
                refine zg_bipush hX dX10_cups_84 86 rfl (by decide) ?_
                refine zg_isub hX dX10_cups_86 87 rfl ?_
                have e87 : (a - 10 : Int) = (((a - 10).toNat : Nat) : Int) := by omega
                refine zg_to (lv2 := [(2, .int (zI (bzz (cupR σ).1 7))), (0, .ref (q 0)), (1, .int (zI a))]) (ws2 := (mW cI q (pu f 11 ((s2 σ : Int) + 1)) R51)) (st2 := [.int (zI (((a - 10).toNat : Nat) : Int)), .ref (q 10)]) ?_ rfl rfl (by first | (rw [e87]; done) | (rw [← e87]; done) | (rw [← e87]; rfl))
                refine ma_10 hX ((a - 10).toNat) ((cupR σ).2 (a - 10).toNat : Int) (by omega) (by omega) (h951 hbm _ (by omega)) dX10_cups_87 88 rfl ?_
                refine zg_iconst hX dX10_cups_88 89 rfl ?_
                refine zg_isub hX dX10_cups_89 90 rfl ?_
                refine zg_goto hX dX10_cups_90 94 (by decide) ?_
                exact zg_iret hX hR (Nat.le_refl _) (Nat.le_refl _) rfl dX10_cups_94 (qM_ret (by unfold o_cups cupA; rw [if_pos (by omega), if_neg (by omega)]; first | (rw [if_pos (by omega), show bzz (cupR σ).1 7 = -1 by (unfold bzz; rw [if_pos (by omega)])]; done) | (rw [if_neg (by omega), if_neg (by omega), if_pos (by omega)]; done) | (rw [if_neg (by omega), if_neg (by omega), if_neg (by omega)]; done) | (rw [cup_0 σ _ (by omega)])) hr51)
            · have hbm : 7 ≤ (cupR σ).1 := by unfold bzz at h61; revert h61; split <;> omega
              refine zg_iload_n hX 0 rfl dX10_cups_64 rfl 65 rfl ?_
              refine zg_goto hX dX10_cups_65 94 (by decide) ?_
              exact zg_iret hX hR (Nat.le_refl _) (Nat.le_refl _) rfl dX10_cups_94 (qM_ret (by unfold o_cups cupA; rw [if_pos (by omega), if_neg (by omega)]; first | (rw [if_pos (by omega), show bzz (cupR σ).1 7 = -1 by (unfold bzz; rw [if_pos (by omega)])]; done) | (rw [if_neg (by omega), if_neg (by omega), if_pos (by omega)]; done) | (rw [if_neg (by omega), if_neg (by omega), if_neg (by omega)]; done) | (rw [cup_0 σ _ (by omega)])) hr51)
        · refine zg_bipush hX dX10_cups_37 39 rfl (by decide) ?_
          exact zg_iret hX hR (Nat.le_refl _) (Nat.le_refl _) rfl dX10_cups_39 (qM_ret (by unfold o_cups; rw [if_pos (by omega), if_pos (by omega)]) h)
    · have h15a := of_decide_eq_false h15
      refine zg_bipush hX dX10_cups_18 20 rfl (by decide) ?_
      exact zg_iret hX hR (Nat.le_refl _) (Nat.le_refl _) rfl dX10_cups_20 (qM_ret (by unfold o_cups; rw [if_neg (by omega)]) h)
-- Model.isOrder
set_option maxRecDepth 20000 in
theorem c_X10_isOrder (l : Launch) (D : va_G) (cI : ClassId) (q : Nat → Nat) (f : Nat → Int) (r : Nat → Nat → Int) (σ : Sg) (B : Nat) (row : Nat → Nat) (hσ : sOK σ B) (hB : B ≤ 100) (h : MRel f r σ) (hrow2 : ∀ i, i < pb (sP σ) → r 8 i = (row i : Int)) (hrow : ∀ i, row i < pb (sP σ)) : Cn l D cI yX10_isOrder cX10_isOrder 3 (some .boolean) 0 0 0 [.ref (q 0)] (mW cI q f r) (pI (b2 (isO σ row)) (mW cI q f r)) := by
  refine Cn.of [(0, .ref (q 0))] (by decide +kernel) (Nat.le_of_ble_eq_true rfl) rfl (fun X hX hR => ?_)
  have hsl := hσ.1
  have hg6 := hσ.2.1
  have hP := hσ.2.2.1
  have hE := hσ.2.2.2.1
  have hpb6 := hP.1
  have hpL9 := hP.2.1
  have hn4 := hE.1
  have hT6 := hE.2.2.2.2.1
  have hep := hE.2.2.2.2.2.2.2
  have hbk := hE.2.2.2.2.2.2.1
  have hs1 := hσ.2.2.2.2.2.1
  have hs2 := hσ.2.2.2.2.2.2.1
  have hs3 := hσ.2.2.2.2.2.2.2.1
  have hbd := hσ.2.2.2.2.2.2.2.2.1
  have hρ : RuOK (sr σ) := rho_OK hP hE
  have ht : tk (sr σ) (st σ) := rho_tk hE
  have hrb : rb (sr σ) = pb (sP σ) := rfl
  have hrn : rn (sr σ) = en (sE σ) := rfl
  have hrl : rl (sr σ) = pL (sP σ) := rfl
  have hm : mR f r (sr σ) := mR_of h.2.1 h.2.2.1
  refine zg_iconst hX dX10_isOrder_0 1 rfl ?_
  refine zg_istore_n hX [(1, .int (zI 0)), (0, .ref (q 0))] dX10_isOrder_1 rfl (by decide) rfl 2 rfl ?_
  refine zg_iconst hX dX10_isOrder_2 3 rfl ?_
  refine zg_istore_n hX [(2, .int (zI 0)), (1, .int (zI 0)), (0, .ref (q 0))] dX10_isOrder_3 rfl (by decide) rfl 4 rfl ?_
  have L4 : ∀ (fuel : Nat) (i : Nat) (x4_1 : Int) (x4_2 : Int), (pb (sP σ) - i < fuel) → (i ≤ pb (sP σ)) → x4_1 = ((mk (uo row i) 6 : Nat) : Int) → x4_2 = (i : Int) → G X 3 0 0 (mW cI q f r) [(0, .ref (q 0)), (1, .int (zI x4_1)), (2, .int (zI x4_2))] 4 [] := by
    intro fuel
    induction fuel with
    | zero =>
      intro i x4_1 x4_2 hm4
      exact absurd hm4 (Nat.not_lt_zero _)
    | succ fuel ih4 =>
      intro i x4_1 x4_2 hm4 hi ex4_1 ex4_2
      subst ex4_1
      subst ex4_2
      refine zg_iload_n hX 2 rfl dX10_isOrder_4 rfl 5 rfl ?_
      refine zg_aload_n hX 0 rfl dX10_isOrder_5 rfl 6 rfl ?_
      refine mg_0_6 hX mw_647 (pb (sP σ) : Int) h.2.1.1 dX10_isOrder_6 9 rfl ?_
      refine zg_icmp_ge hX (by omega) (by omega) dX10_isOrder_9 29 (by decide) 12 rfl (fun h9 => ?_) (fun h9 => ?_)
      · refine zg_iload_n hX 1 rfl dX10_isOrder_29 rfl 30 rfl ?_
        refine zg_iconst hX dX10_isOrder_30 31 rfl ?_
        refine zg_aload_n hX 0 rfl dX10_isOrder_31 rfl 32 rfl ?_
        refine mg_0_6 hX mw_647 (pb (sP σ) : Int) h.2.1.1 dX10_isOrder_32 35 rfl ?_
        have hmr := mk_rng (uo row i) 6 (by omega)
        have h2p : 1 ≤ 2 ^ pb (sP σ) ∧ 2 ^ pb (sP σ) ≤ 2 ^ 6 := ⟨Nat.pow_pos (by decide), Nat.pow_le_pow_right (by decide) hpb6⟩
        refine zg_ishl hX ((2 ^ pb (sP σ) : Nat) : Int) (zb_shl1 (by omega)) dX10_isOrder_35 36 rfl ?_
        refine zg_iconst hX dX10_isOrder_36 37 rfl ?_
        refine zg_isub hX dX10_isOrder_37 38 rfl ?_
        refine zg_icmp_ne hX (by omega) (by omega) dX10_isOrder_38 45 (by decide) 41 rfl (fun h38 => ?_) (fun h38 => ?_)
        · have hres : isO σ row = false := isO_f (i := i) (by omega) h2p.1 h38
          refine zg_iconst hX dX10_isOrder_45 46 rfl ?_
          exact zg_zret hX hR (Nat.le_refl _) (Nat.le_refl _) (by decide) rfl dX10_isOrder_46 (by first | exact pB_t hres | exact pB_f hres)
        · have hres : isO σ row = true := isO_t (i := i) (by omega) h2p.1 (by first | exact h38 | exact Decidable.not_not.mp h38)
          refine zg_iconst hX dX10_isOrder_41 42 rfl ?_
          refine zg_goto hX dX10_isOrder_42 46 (by decide) ?_
          exact zg_zret hX hR (Nat.le_refl _) (Nat.le_refl _) (by decide) rfl dX10_isOrder_46 (by first | exact pB_t hres | exact pB_f hres)
      · refine zg_iload_n hX 1 rfl dX10_isOrder_12 rfl 13 rfl ?_
        refine zg_iconst hX dX10_isOrder_13 14 rfl ?_
        refine zg_aload_n hX 0 rfl dX10_isOrder_14 rfl 15 rfl ?_
        refine mg_0_21 hX mw_662 dX10_isOrder_15 18 rfl ?_
        refine zg_iload_n hX 2 rfl dX10_isOrder_18 rfl 19 rfl ?_
        refine ma_9 hX i (row i : Int) (by omega) (by omega) (hrow2 i (by omega)) dX10_isOrder_19 20 rfl ?_
        have hri := hrow i
        refine zg_ishl hX ((2 ^ row i : Nat) : Int) (zb_shl1 (by omega)) dX10_isOrder_20 21 rfl ?_
        refine zg_ior hX ((mk (uo row (i + 1)) 6 : Nat) : Int) (zb_or (by omega) (by omega)) dX10_isOrder_21 22 rfl ?_
        refine zg_istore_n hX [(1, .int (zI ((mk (uo row (i + 1)) 6 : Nat) : Int))), (0, .ref (q 0)), (2, .int (zI (i : Int)))] dX10_isOrder_22 rfl (by decide) rfl 23 rfl ?_
        refine zg_iinc hX [(2, .int (zI ((i : Int) + 1))), (1, .int (zI ((mk (uo row (i + 1)) 6 : Nat) : Int))), (0, .ref (q 0))] 2 rfl dX10_isOrder_23 (by decide) rfl 26 rfl ?_
        refine zg_goto hX dX10_isOrder_26 4 (by decide) ?_
        exact zg_lv _ [2, 1, 0] rfl (ih4 (i + 1) _ _ (by omega) (by omega) (rfl) (by omega))
  exact zg_lv _ [2, 1, 0] rfl (L4 _ 0 _ _ (Nat.lt_succ_self _) (by omega) (rfl) (rfl))
-- Model.order
set_option maxRecDepth 20000 in
theorem c_X10_order (l : Launch) (D : va_G) (cI : ClassId) (q : Nat → Nat) (f : Nat → Int) (r : Nat → Nat → Int) (σ : Sg) (B : Nat) (a : Int) (hσ : sOK σ B) (hB : B ≤ 100) (h : MRel f r σ) (ha : -2147483648 ≤ a ∧ a < 2147483648) : Cn l D cI yX10_order cX10_order 6 (some .int) 7 0 0 [.ref (q 0), .int (zI a)] (mW cI q f r) (qM cI q (o_order σ a)) := by
  refine Cn.of [(0, .ref (q 0)), (1, .int (zI a))] (by decide +kernel) (Nat.le_of_ble_eq_true rfl) rfl (fun X hX hR => ?_)
  have hsl := hσ.1
  have hg6 := hσ.2.1
  have hP := hσ.2.2.1
  have hE := hσ.2.2.2.1
  have hpb6 := hP.1
  have hpL9 := hP.2.1
  have hn4 := hE.1
  have hT6 := hE.2.2.2.2.1
  have hep := hE.2.2.2.2.2.2.2
  have hbk := hE.2.2.2.2.2.2.1
  have hs1 := hσ.2.2.2.2.2.1
  have hs2 := hσ.2.2.2.2.2.2.1
  have hs3 := hσ.2.2.2.2.2.2.2.1
  have hbd := hσ.2.2.2.2.2.2.2.2.1
  have hρ : RuOK (sr σ) := rho_OK hP hE
  have ht : tk (sr σ) (st σ) := rho_tk hE
  have hrb : rb (sr σ) = pb (sP σ) := rfl
  have hrn : rn (sr σ) = en (sE σ) := rfl
  have hrl : rl (sr σ) = pL (sP σ) := rfl
  have hm : mR f r (sr σ) := mR_of h.2.1 h.2.2.1
  refine zg_iload_n hX 1 rfl dX10_order_0 rfl 1 rfl ?_
  refine zg_if_eq hX (by omega) dX10_order_1 21 (by decide) 4 rfl (fun h1 => ?_) (fun h1 => ?_)
  · refine zg_aload_n hX 0 rfl dX10_order_21 rfl 22 rfl ?_
    refine zg_callVi (As := []) (rest := []) (k0 := 0) (ci := 9) hX (c_X10_lacks l D cI q f r (sr σ) hρ hm) mw_781 mw_783 mw_s14 mw_10 mw_784 sg_X10_lacks (by decide) (by decide) (Nat.le_refl _) (Nat.le_refl _) rfl rfl rfl (Nat.le_of_ble_eq_true rfl) dX10_order_22 25 rfl ?_
    refine zg_ifb_ne hX dX10_order_25 37 (by decide) 28 rfl (fun h25 => ?_) (fun h25 => ?_)
    · have hlk := of_decide_eq_true h25
      refine zg_bipush hX dX10_order_37 39 rfl (by decide) ?_
      exact zg_iret hX hR (Nat.le_refl _) (Nat.le_refl _) rfl dX10_order_39 (qM_ret (by unfold o_order; rw [if_pos (by omega), if_pos (by omega)]) h)
    · have hlk := of_decide_eq_false h25
      refine zg_aload_n hX 0 rfl dX10_order_28 rfl 29 rfl ?_
      refine mg_0_20 hX mw_661 (s3 σ : Int) h.2.2.2.2.2.2.1 dX10_order_29 32 rfl ?_
      refine zg_bipush hX dX10_order_32 34 rfl (by decide) ?_
      refine zg_icmp_ne hX (by omega) (by omega) dX10_order_34 40 (by decide) 37 rfl (fun h34 => ?_) (fun h34 => ?_)
      · refine zg_aload_n hX 0 rfl dX10_order_40 rfl 41 rfl ?_
        refine zg_dup hX rfl dX10_order_41 42 rfl ?_
        refine mg_0_20 hX mw_661 (s3 σ : Int) h.2.2.2.2.2.2.1 dX10_order_42 45 rfl ?_
        refine zg_iconst hX dX10_order_45 46 rfl ?_
        refine zg_iadd hX dX10_order_46 47 rfl ?_
        refine mp_0_20 hX mw_661 dX10_order_47 50 rfl ?_
        have hsc : sOK (withC σ (s2 σ) (s3 σ + 1)) B := ⟨hσ.1, hσ.2.1, hσ.2.2.1, hσ.2.2.2.1, hσ.2.2.2.2.1, hs1, hs2, by show s3 σ + 1 ≤ 20; omega, hσ.2.2.2.2.2.2.2.2⟩
        have hmc := m_order h
        obtain ⟨m6, hm6n⟩ : ∃ m6, m6 = pb (sP σ) ^ pb (sP σ) := ⟨_, rfl⟩
        have hm6 : (m6 : Int) = ((pb (sP σ) ^ pb (sP σ) : Nat) : Int) := congrArg Int.ofNat hm6n
        have hp6 : 1 ≤ m6 ∧ m6 ≤ 46656 := by rw [hm6n]; exact pow_6 (m := pb (sP σ)) (b := pb (sP σ)) (by omega) hpb6 hpb6
        refine zg_iconst hX dX10_order_50 51 rfl ?_
        refine zg_istore_n hX [(2, .int (zI (-1))), (0, .ref (q 0)), (1, .int (zI a))] dX10_order_51 rfl (by decide) rfl 52 rfl ?_
        refine zg_iconst hX dX10_order_52 53 rfl ?_
        refine zg_istore_n hX [(3, .int (zI 0)), (2, .int (zI (-1))), (0, .ref (q 0)), (1, .int (zI a))] dX10_order_53 rfl (by decide) rfl 54 rfl ?_
        have L54 : ∀ (fuel : Nat) (n : Nat) (R1 : Nat → Nat → Int) (x54_2 : Int) (x54_3 : Int), (m6 - n < fuel) → (n ≤ m6) → (frR r R1) → (MRel (pu f 12 ((s3 σ : Int) + 1)) R1 (withC σ (s2 σ) (s3 σ + 1))) → ((oZ σ n).1 ≤ 25) → (-1 ≤ bzz (oZ σ n).1 25 ∧ bzz (oZ σ n).1 25 ≤ 25) → ((oZ σ n).1 < 25 → ∀ i, i < pb (sP σ) → R1 9 i = ((oZ σ n).2 i : Int)) → x54_2 = (bzz (oZ σ n).1 25) → x54_3 = (n : Int) → G X 6 0 0 (mW cI q (pu f 12 ((s3 σ : Int) + 1)) R1) [(0, .ref (q 0)), (1, .int (zI a)), (2, .int (zI x54_2)), (3, .int (zI x54_3))] 54 [] := by
          intro fuel
          induction fuel with
          | zero =>
            intro n R1 x54_2 x54_3 hm54
            exact absurd hm54 (Nat.not_lt_zero _)
          | succ fuel ih54 =>
            intro n R1 x54_2 x54_3 hm54 hn hx1 hr1 hz7 hbr h9 ex54_2 ex54_3
            subst ex54_2
            subst ex54_3
            refine zg_iload_n hX 3 rfl dX10_order_54 rfl 55 rfl ?_
            refine zg_aload_n hX 0 rfl dX10_order_55 rfl 56 rfl ?_
            refine zg_aload_n hX 0 rfl dX10_order_56 rfl 57 rfl ?_
            refine mg_0_6 hX mw_647 (pb (sP σ) : Int) h.2.1.1 dX10_order_57 60 rfl ?_
            refine zg_callVi (As := [.int (zI (pb (sP σ) : Int))]) (rest := [.int (zI (n : Int))]) (k0 := 0) (ci := 9) hX (c_X10_codes l D cI q (pu f 12 ((s3 σ : Int) + 1)) R1 (withC σ (s2 σ) (s3 σ + 1)) B (pb (sP σ)) hsc hB hr1 (by omega)) mw_894 mw_896 mw_s32 mw_10 mw_897 sg_X10_codes (by decide) (by decide) (Nat.le_refl _) (Nat.le_refl _) rfl rfl rfl (Nat.le_of_ble_eq_true rfl) dX10_order_60 63 rfl ?_
            have e63 : (((pb (sP σ) ^ pb (sP σ) : Nat) : Int) : Int) = (m6 : Int) := hm6.symm
            refine zg_to (lv2 := [(0, .ref (q 0)), (1, .int (zI a)), (2, .int (zI (bzz (oZ σ n).1 25))), (3, .int (zI (n : Int)))]) (ws2 := (mW cI q (pu f 12 ((s3 σ : Int) + 1)) R1)) (st2 := [.int (zI (m6 : Int)), .int (zI (n : Int))]) ?_ rfl rfl (by first | (rw [e63]; done) | (rw [← e63]; done) | (rw [← e63]; rfl))
            refine zg_icmp_ge hX (by omega) (by omega) dX10_order_63 154 (by decide) 66 rfl (fun h63 => ?_) (fun h63 => ?_)
            · have hno : n = pb (sP σ) ^ pb (sP σ) := (show n = m6 by omega).trans hm6n
              have h24 : (ordR σ).1 ≤ 24 := ordR_24 hρ
              have hzr : oZ σ n = ordR σ := by rw [ordR_Z, hno]
              have hbe : bzz (oZ σ n).1 25 = ((ordR σ).1 : Int) := by rw [hzr]; unfold bzz; rw [if_neg (by omega)]
              rw [hzr] at h9
              refine zg_iload_n hX 1 rfl dX10_order_154 rfl 155 rfl ?_
              refine zg_if_ne hX (by omega) dX10_order_155 162 (by decide) 158 rfl (fun h155 => ?_) (fun h155 => ?_)
              · refine zg_iload_n hX 1 rfl dX10_order_162 rfl 163 rfl ?_
                refine zg_bipush hX dX10_order_163 165 rfl (by decide) ?_
                refine zg_isub hX dX10_order_165 166 rfl ?_
                refine zg_aload_n hX 0 rfl dX10_order_166 rfl 167 rfl ?_
                refine mg_0_6 hX mw_647 (pb (sP σ) : Int) h.2.1.1 dX10_order_167 170 rfl ?_
                refine zg_icmp_ge hX (by omega) (by omega) dX10_order_170 185 (by decide) 173 rfl (fun h170 => ?_) (fun h170 => ?_)
                · refine zg_iconst hX dX10_order_185 186 rfl ?_
                  exact zg_iret hX hR (Nat.le_refl _) (Nat.le_refl _) rfl dX10_order_186 (qM_ret (by unfold o_order ordA; rw [if_pos (by omega), if_neg (by omega)]; first | (rw [if_pos (by omega), hbe]; done) | (rw [if_neg (by omega), if_pos (by omega)]; done) | (rw [if_neg (by omega), if_neg (by omega)]; done)) hr1)
                · refine zg_aload_n hX 0 rfl dX10_order_173 rfl 174 rfl ?_
                  refine mg_0_22 hX mw_663 dX10_order_174 177 rfl ?_
                  refine zg_iload_n hX 1 rfl dX10_order_177 rfl 178 rfl ?_
                  refine zg_bipush hX dX10_order_178 180 rfl (by decide) ?_
                  refine zg_isub hX dX10_order_180 181 rfl ?_
                  have e181 : (a - 10 : Int) = (((a - 10).toNat : Nat) : Int) := by omega
                  refine zg_to (lv2 := [(0, .ref (q 0)), (1, .int (zI a)), (2, .int (zI (bzz (oZ σ n).1 25))), (3, .int (zI (n : Int)))]) (ws2 := (mW cI q (pu f 12 ((s3 σ : Int) + 1)) R1)) (st2 := [.int (zI (((a - 10).toNat : Nat) : Int)), .ref (q 10)]) ?_ rfl rfl (by first | (rw [e181]; done) | (rw [← e181]; done) | (rw [← e181]; rfl))
                  refine ma_10 hX ((a - 10).toNat) ((ordR σ).2 (a - 10).toNat : Int) (by omega) (by omega) (h9 (by omega) _ (by omega)) dX10_order_181 182 rfl ?_
                  refine zg_goto hX dX10_order_182 186 (by decide) ?_
                  exact zg_iret hX hR (Nat.le_refl _) (Nat.le_refl _) rfl dX10_order_186 (qM_ret (by unfold o_order ordA; rw [if_pos (by omega), if_neg (by omega)]; first | (rw [if_pos (by omega), hbe]; done) | (rw [if_neg (by omega), if_pos (by omega)]; done) | (rw [if_neg (by omega), if_neg (by omega)]; done)) hr1)
              · refine zg_iload_n hX 2 rfl dX10_order_158 rfl 159 rfl ?_
                refine zg_goto hX dX10_order_159 186 (by decide) ?_
                exact zg_iret hX hR (Nat.le_refl _) (Nat.le_refl _) rfl dX10_order_186 (qM_ret (by unfold o_order ordA; rw [if_pos (by omega), if_neg (by omega)]; first | (rw [if_pos (by omega), hbe]; done) | (rw [if_neg (by omega), if_pos (by omega)]; done) | (rw [if_neg (by omega), if_neg (by omega)]; done)) hr1)
            · refine zg_aload_n hX 0 rfl dX10_order_66 rfl 67 rfl ?_
              refine zg_iload_n hX 3 rfl dX10_order_67 rfl 68 rfl ?_
              refine zg_aload_n hX 0 rfl dX10_order_68 rfl 69 rfl ?_
              refine mg_0_6 hX mw_647 (pb (sP σ) : Int) h.2.1.1 dX10_order_69 72 rfl ?_
              refine zg_callV (As := [.int (zI (n : Int)), .int (zI (pb (sP σ) : Int))]) (rest := []) (k0 := 0) (ci := 9) hX (c_X10_layRow l D cI q (pu f 12 ((s3 σ : Int) + 1)) R1 (withC σ (s2 σ) (s3 σ + 1)) B n (pb (sP σ)) hsc hB hr1 (by omega) (by omega)) mw_898 mw_900 mw_s33 mw_10 mw_901 sg_X10_layRow (by decide) (by decide) (Nat.le_refl _) (Nat.le_refl _) rfl rfl rfl (Nat.le_of_ble_eq_true rfl) dX10_order_72 75 rfl (fun v72 W72 hp72 => ?_)
              obtain ⟨R72, rfl, rfl, hk72, h872⟩ := hp72
              show G X 6 0 0 (mW cI q (pu f 12 ((s3 σ : Int) + 1)) R72) [(0, .ref (q 0)), (1, .int (zI a)), (2, .int (zI (bzz (oZ σ n).1 25))), (3, .int (zI (n : Int)))] 75 []
              have hx72 : frR r R72 := hx1.tr (frR_1 hk72 (by omega))
              have hr72 : MRel (pu f 12 ((s3 σ : Int) + 1)) R72 (withC σ (s2 σ) (s3 σ + 1)) := MRel_r hmc hx72
              have hrl8 := fun i => rwo_lt (m := pb (sP σ)) (B := pb (sP σ)) (n := n) (by omega) i
              refine zg_aload_n hX 0 rfl dX10_order_75 rfl 76 rfl ?_
              refine zg_callVi (As := []) (rest := []) (k0 := 0) (ci := 9) hX (c_X10_isOrder l D cI q (pu f 12 ((s3 σ : Int) + 1)) R72 (withC σ (s2 σ) (s3 σ + 1)) B (rwo (pb (sP σ)) (pb (sP σ)) n) hsc hB hr72 h872 hrl8) mw_910 mw_912 mw_s35 mw_10 mw_913 sg_X10_isOrder (by decide) (by decide) (Nat.le_refl _) (Nat.le_refl _) rfl rfl rfl (Nat.le_of_ble_eq_true rfl) dX10_order_76 79 rfl ?_
              refine zg_ifb_eq hX dX10_order_79 148 (by decide) 82 rfl (fun h79 => ?_) (fun h79 => ?_)
              · have hz : oZ σ (n + 1) = oZ σ n := oZ_no hpb6 (by omega) h79
                have hxe : frR r R72 := hx72
                have h9e : R72 9 = R1 9 := hk72 9 (by decide)
                refine zg_iinc hX [(3, .int (zI ((n : Int) + 1))), (0, .ref (q 0)), (1, .int (zI a)), (2, .int (zI (bzz (oZ σ n).1 25)))] 3 rfl dX10_order_148 (by decide) rfl 151 rfl ?_
                refine zg_goto hX dX10_order_151 54 (by decide) ?_
                exact zg_lv _ [1, 2, 3, 0] rfl (ih54 (n + 1) R72 _ _ (by omega) (by omega) (by first | exact hxf | exact hxe) (by first | exact MRel_r hmc hxf | exact MRel_r hmc hxe) (by first | (rw [hz]; exact hz7) | (rw [hz1]; omega)) (bzz_25 _) (by first | (rw [hz, h9e]; exact h9) | exact (fun _ i hi => by rw [hz2, hl145.2 i (by omega)]; exact h8e i hi)) (by first | (rw [hz]; done) | (rw [hz1]; exact bzz_in2 (by omega))) (by omega))
              · have hy := oZ_yes hpb6 (by omega) h79
                refine zg_aload_n hX 0 rfl dX10_order_82 rfl 83 rfl ?_
                refine zg_callV (As := []) (rest := []) (k0 := 0) (ci := 9) hX (c_X10_asItIs l D cI q (pu f 12 ((s3 σ : Int) + 1)) R72 (sr σ) hρ (mR_of hr72.2.1 hr72.2.2.1)) mw_797 mw_799 mw_s17 mw_10 mw_800 sg_X10_asItIs (by decide) (by decide) (Nat.le_refl _) (Nat.le_refl _) rfl rfl rfl (Nat.le_of_ble_eq_true rfl) dX10_order_83 86 rfl (fun v83 W83 hp83 => ?_)
                obtain ⟨R83, rfl, rfl, hl83⟩ := hp83
                show G X 6 0 0 (mW cI q (pu f 12 ((s3 σ : Int) + 1)) R83) [(0, .ref (q 0)), (1, .int (zI a)), (2, .int (zI (bzz (oZ σ n).1 25))), (3, .int (zI (n : Int)))] 86 []
                have hx83 : frR r R83 := hx72.tr (frR_lay hl83 (by omega))
                have hr83 : MRel (pu f 12 ((s3 σ : Int) + 1)) R83 (withC σ (s2 σ) (s3 σ + 1)) := MRel_r hmc hx83
                have hn83 : ∀ p, p < rn (sr σ) → R83 5 p = (st σ p : Int) := fun p hp => (hl83.2 p hp).trans (hr72.2.2.1.2.2.2.2.2.1 p hp)
                refine zg_iconst hX dX10_order_86 87 rfl ?_
                refine zg_istore hX [(4, .int (zI 0)), (0, .ref (q 0)), (1, .int (zI a)), (2, .int (zI (bzz (oZ σ n).1 25))), (3, .int (zI (n : Int)))] dX10_order_87 (by decide) rfl 89 rfl ?_
                refine zg_iconst hX dX10_order_89 90 rfl ?_
                refine zg_istore hX [(5, .int (zI 0)), (4, .int (zI 0)), (0, .ref (q 0)), (1, .int (zI a)), (2, .int (zI (bzz (oZ σ n).1 25))), (3, .int (zI (n : Int)))] dX10_order_90 (by decide) rfl 92 rfl ?_
                have L92 : ∀ (fuel : Nat) (j : Nat) (R2 : Nat → Nat → Int) (x92_4 : Int) (x92_5 : Int), (pb (sP σ) - j < fuel) → (j ≤ pb (sP σ)) → (∀ k, k ≠ 5 → k ≠ 6 → k ≠ 7 → R2 k = R72 k) → (frR r R2) → (MRel (pu f 12 ((s3 σ : Int) + 1)) R2 (withC σ (s2 σ) (s3 σ + 1))) → (∀ p, p < rn (sr σ) → R2 5 p = ((oT (sr σ) (st σ) (rwo (pb (sP σ)) (pb (sP σ)) n) j).1 p : Int)) → (tk (sr σ) (oT (sr σ) (st σ) (rwo (pb (sP σ)) (pb (sP σ)) n) j).1) → x92_4 = ((oT (sr σ) (st σ) (rwo (pb (sP σ)) (pb (sP σ)) n) j).2 : Int) → x92_5 = (j : Int) → G X 6 0 0 (mW cI q (pu f 12 ((s3 σ : Int) + 1)) R2) [(0, .ref (q 0)), (1, .int (zI a)), (2, .int (zI (bzz (oZ σ n).1 25))), (3, .int (zI (n : Int))), (4, .int (zI x92_4)), (5, .int (zI x92_5))] 92 [] := by
                  intro fuel
                  induction fuel with
                  | zero =>
                    intro j R2 x92_4 x92_5 hm92
                    exact absurd hm92 (Nat.not_lt_zero _)
                  | succ fuel ih92 =>
                    intro j R2 x92_4 x92_5 hm92 hj hR2 hx2 hr2 hn2 ht2 ex92_4 ex92_5
                    subst ex92_4
                    subst ex92_5
                    refine zg_iload hX 5 rfl dX10_order_92 94 rfl ?_
                    refine zg_aload_n hX 0 rfl dX10_order_94 rfl 95 rfl ?_
                    refine mg_0_6 hX mw_647 (pb (sP σ) : Int) h.2.1.1 dX10_order_95 98 rfl ?_
                    refine zg_icmp_ge hX (by omega) (by omega) dX10_order_98 123 (by decide) 101 rfl (fun h98 => ?_) (fun h98 => ?_)
                    · have el123_4 : (((oT (sr σ) (st σ) (rwo (pb (sP σ)) (pb (sP σ)) n) j).2 : Int) : Int) = ((oT (sr σ) (st σ) (rwo (pb (sP σ)) (pb (sP σ)) n) (pb (sP σ))).2 : Int) := by rw [show j = pb (sP σ) by omega]
                      refine zg_to (lv2 := [(0, .ref (q 0)), (1, .int (zI a)), (2, .int (zI (bzz (oZ σ n).1 25))), (3, .int (zI (n : Int))), (4, .int (zI ((oT (sr σ) (st σ) (rwo (pb (sP σ)) (pb (sP σ)) n) (pb (sP σ))).2 : Int))), (5, .int (zI (j : Int)))]) (ws2 := (mW cI q (pu f 12 ((s3 σ : Int) + 1)) R2)) (st2 := []) ?_ rfl (by rw [← el123_4]) rfl
                      have hxe : frR r R2 := hx2
                      have h9e : R2 9 = R1 9 := by rw [hR2 9 (by decide) (by decide) (by decide), hk72 9 (by decide)]
                      have h8e : ∀ i, i < pb (sP σ) → R2 8 i = ((rwo (pb (sP σ)) (pb (sP σ)) n) i : Int) := fun i hi => by rw [hR2 8 (by decide) (by decide) (by decide)]; exact h872 i hi
                      have hol := oT_le hρ (t := st σ) (row := rwo (pb (sP σ)) (pb (sP σ)) n) (pb (sP σ))
                      refine zg_iload_n hX 2 rfl dX10_order_123 rfl 124 rfl ?_
                      refine zg_iconst hX dX10_order_124 125 rfl ?_
                      refine zg_icmp_eq hX (by omega) (by omega) dX10_order_125 134 (by decide) 128 rfl (fun h125 => ?_) (fun h125 => ?_)
                      · have hb7 : (oZ σ n).1 = 25 := by unfold bzz at h125; revert h125; split <;> omega
                        have hlt : (oT (sr σ) (st σ) (rwo (pb (sP σ)) (pb (sP σ)) n) (pb (sP σ))).2 < (oZ σ n).1 := by omega
                        have hz2 : oZ σ (n + 1) = ((oT (sr σ) (st σ) (rwo (pb (sP σ)) (pb (sP σ)) n) (pb (sP σ))).2, rwo (pb (sP σ)) (pb (sP σ)) n) := by rw [hy, if_pos hlt]
                        have hz1 : (oZ σ (n + 1)).1 = (oT (sr σ) (st σ) (rwo (pb (sP σ)) (pb (sP σ)) n) (pb (sP σ))).2 := by rw [hz2]
                        refine zg_iload hX 4 rfl dX10_order_134 136 rfl ?_
                        refine zg_istore_n hX [(2, .int (zI ((oT (sr σ) (st σ) (rwo (pb (sP σ)) (pb (sP σ)) n) (pb (sP σ))).2 : Int))), (0, .ref (q 0)), (1, .int (zI a)), (3, .int (zI (n : Int))), (4, .int (zI ((oT (sr σ) (st σ) (rwo (pb (sP σ)) (pb (sP σ)) n) (pb (sP σ))).2 : Int))), (5, .int (zI (j : Int)))] dX10_order_136 rfl (by decide) rfl 137 rfl ?_
                        refine zg_aload_n hX 1 rfl dX10_order_137 rfl 138 rfl ?_
                        refine mg_0_21 hX mw_662 dX10_order_138 141 rfl ?_
                        refine zg_aload_n hX 1 rfl dX10_order_141 rfl 142 rfl ?_
                        refine mg_0_22 hX mw_663 dX10_order_142 145 rfl ?_
                        refine zg_callS (As := [.ref (q 9), .ref (q 10)]) (rest := []) hX (c_X10_copy_8_9 l D cI q (pu f 12 ((s3 σ : Int) + 1)) R2) mw_774 mw_775 mw_10 mw_776 sg_X10_copy.2 (by decide) (by decide) (Nat.le_refl _) (Nat.le_refl _) rfl (Nat.le_of_ble_eq_true rfl) dX10_order_145 148 rfl (fun v145 W145 hp145 => ?_)
                        obtain ⟨R145, rfl, rfl, hl145⟩ := hp145
                        show G X 6 0 0 (mW cI q (pu f 12 ((s3 σ : Int) + 1)) R145) [(2, .int (zI ((oT (sr σ) (st σ) (rwo (pb (sP σ)) (pb (sP σ)) n) (pb (sP σ))).2 : Int))), (0, .ref (q 0)), (1, .int (zI a)), (3, .int (zI (n : Int))), (4, .int (zI ((oT (sr σ) (st σ) (rwo (pb (sP σ)) (pb (sP σ)) n) (pb (sP σ))).2 : Int))), (5, .int (zI (j : Int)))] 148 []
                        have hxf : frR r R145 := hx2.tr (frR_lay hl145 (by omega))
                        refine zg_iinc hX [(3, .int (zI ((n : Int) + 1))), (2, .int (zI ((oT (sr σ) (st σ) (rwo (pb (sP σ)) (pb (sP σ)) n) (pb (sP σ))).2 : Int))), (0, .ref (q 0)), (1, .int (zI a)), (4, .int (zI ((oT (sr σ) (st σ) (rwo (pb (sP σ)) (pb (sP σ)) n) (pb (sP σ))).2 : Int))), (5, .int (zI (j : Int)))] 3 rfl dX10_order_148 (by decide) rfl 151 rfl ?_
                        refine zg_goto hX dX10_order_151 54 (by decide) ?_
                        exact zg_lv _ [2, 3, 1, 0] rfl (ih54 (n + 1) R145 _ _ (by omega) (by omega) (by first | exact hxf | exact hxe) (by first | exact MRel_r hmc hxf | exact MRel_r hmc hxe) (by first | (rw [hz]; exact hz7) | (rw [hz1]; omega)) (bzz_25 _) (by first | (rw [hz, h9e]; exact h9) | exact (fun _ i hi => by rw [hz2, hl145.2 i (by omega)]; exact h8e i hi)) (by first | (rw [hz]; done) | (rw [hz1]; exact bzz_in2 (by omega))) (by omega))
                      · have hb7 : bzz (oZ σ n).1 25 = ((oZ σ n).1 : Int) := by unfold bzz at h125 ⊢; revert h125; split <;> omega
                        refine zg_iload hX 4 rfl dX10_order_128 130 rfl ?_
                        refine zg_iload_n hX 2 rfl dX10_order_130 rfl 131 rfl ?_
                        refine zg_icmp_ge hX (by omega) (by omega) dX10_order_131 148 (by decide) 134 rfl (fun h131 => ?_) (fun h131 => ?_)
                        · have hz : oZ σ (n + 1) = oZ σ n := by rw [hy, if_neg (by omega)]
                          refine zg_iinc hX [(3, .int (zI ((n : Int) + 1))), (0, .ref (q 0)), (1, .int (zI a)), (2, .int (zI (bzz (oZ σ n).1 25))), (4, .int (zI ((oT (sr σ) (st σ) (rwo (pb (sP σ)) (pb (sP σ)) n) (pb (sP σ))).2 : Int))), (5, .int (zI (j : Int)))] 3 rfl dX10_order_148 (by decide) rfl 151 rfl ?_
                          refine zg_goto hX dX10_order_151 54 (by decide) ?_
                          exact zg_lv _ [1, 2, 3, 0] rfl (ih54 (n + 1) R2 _ _ (by omega) (by omega) (by first | exact hxf | exact hxe) (by first | exact MRel_r hmc hxf | exact MRel_r hmc hxe) (by first | (rw [hz]; exact hz7) | (rw [hz1]; omega)) (bzz_25 _) (by first | (rw [hz, h9e]; exact h9) | exact (fun _ i hi => by rw [hz2, hl145.2 i (by omega)]; exact h8e i hi)) (by first | (rw [hz]; done) | (rw [hz1]; exact bzz_in2 (by omega))) (by omega))
                        · have hlt : (oT (sr σ) (st σ) (rwo (pb (sP σ)) (pb (sP σ)) n) (pb (sP σ))).2 < (oZ σ n).1 := by omega
                          have hz2 : oZ σ (n + 1) = ((oT (sr σ) (st σ) (rwo (pb (sP σ)) (pb (sP σ)) n) (pb (sP σ))).2, rwo (pb (sP σ)) (pb (sP σ)) n) := by rw [hy, if_pos hlt]
                          have hz1 : (oZ σ (n + 1)).1 = (oT (sr σ) (st σ) (rwo (pb (sP σ)) (pb (sP σ)) n) (pb (sP σ))).2 := by rw [hz2]
                          refine zg_iload hX 4 rfl dX10_order_134 136 rfl ?_
                          refine zg_istore_n hX [(2, .int (zI ((oT (sr σ) (st σ) (rwo (pb (sP σ)) (pb (sP σ)) n) (pb (sP σ))).2 : Int))), (0, .ref (q 0)), (1, .int (zI a)), (3, .int (zI (n : Int))), (4, .int (zI ((oT (sr σ) (st σ) (rwo (pb (sP σ)) (pb (sP σ)) n) (pb (sP σ))).2 : Int))), (5, .int (zI (j : Int)))] dX10_order_136 rfl (by decide) rfl 137 rfl ?_
                          refine zg_aload_n hX 1 rfl dX10_order_137 rfl 138 rfl ?_
                          refine mg_0_21 hX mw_662 dX10_order_138 141 rfl ?_
                          refine zg_aload_n hX 1 rfl dX10_order_141 rfl 142 rfl ?_
                          refine mg_0_22 hX mw_663 dX10_order_142 145 rfl ?_
                          refine zg_callS (As := [.ref (q 9), .ref (q 10)]) (rest := []) hX (c_X10_copy_8_9 l D cI q (pu f 12 ((s3 σ : Int) + 1)) R2) mw_774 mw_775 mw_10 mw_776 sg_X10_copy.2 (by decide) (by decide) (Nat.le_refl _) (Nat.le_refl _) rfl (Nat.le_of_ble_eq_true rfl) dX10_order_145 148 rfl (fun v145 W145 hp145 => ?_)
                          obtain ⟨R145, rfl, rfl, hl145⟩ := hp145
                          show G X 6 0 0 (mW cI q (pu f 12 ((s3 σ : Int) + 1)) R145) [(2, .int (zI ((oT (sr σ) (st σ) (rwo (pb (sP σ)) (pb (sP σ)) n) (pb (sP σ))).2 : Int))), (0, .ref (q 0)), (1, .int (zI a)), (3, .int (zI (n : Int))), (4, .int (zI ((oT (sr σ) (st σ) (rwo (pb (sP σ)) (pb (sP σ)) n) (pb (sP σ))).2 : Int))), (5, .int (zI (j : Int)))] 148 []
                          have hxf : frR r R145 := hx2.tr (frR_lay hl145 (by omega))
                          refine zg_iinc hX [(3, .int (zI ((n : Int) + 1))), (2, .int (zI ((oT (sr σ) (st σ) (rwo (pb (sP σ)) (pb (sP σ)) n) (pb (sP σ))).2 : Int))), (0, .ref (q 0)), (1, .int (zI a)), (4, .int (zI ((oT (sr σ) (st σ) (rwo (pb (sP σ)) (pb (sP σ)) n) (pb (sP σ))).2 : Int))), (5, .int (zI (j : Int)))] 3 rfl dX10_order_148 (by decide) rfl 151 rfl ?_
                          refine zg_goto hX dX10_order_151 54 (by decide) ?_
                          exact zg_lv _ [2, 3, 1, 0] rfl (ih54 (n + 1) R145 _ _ (by omega) (by omega) (by first | exact hxf | exact hxe) (by first | exact MRel_r hmc hxf | exact MRel_r hmc hxe) (by first | (rw [hz]; exact hz7) | (rw [hz1]; omega)) (bzz_25 _) (by first | (rw [hz, h9e]; exact h9) | exact (fun _ i hi => by rw [hz2, hl145.2 i (by omega)]; exact h8e i hi)) (by first | (rw [hz]; done) | (rw [hz1]; exact bzz_in2 (by omega))) (by omega))
                    · refine zg_iload hX 4 rfl dX10_order_101 103 rfl ?_
                      refine zg_aload_n hX 0 rfl dX10_order_103 rfl 104 rfl ?_
                      refine zg_aload_n hX 0 rfl dX10_order_104 rfl 105 rfl ?_
                      refine mg_0_21 hX mw_662 dX10_order_105 108 rfl ?_
                      refine zg_iload hX 5 rfl dX10_order_108 110 rfl ?_
                      refine ma_9 hX j ((rwo (pb (sP σ)) (pb (sP σ)) n) j : Int) (by omega) (by omega) (by rw [hR2 8 (by decide) (by decide) (by decide)]; exact h872 j (show j < pb (sP σ) by omega)) dX10_order_110 111 rfl ?_
                      refine zg_callV (As := [.int (zI ((rwo (pb (sP σ)) (pb (sP σ)) n) j : Int))]) (rest := [.int (zI ((oT (sr σ) (st σ) (rwo (pb (sP σ)) (pb (sP σ)) n) j).2 : Int))]) (k0 := 0) (ci := 9) hX (c_X10_plays l D cI q (pu f 12 ((s3 σ : Int) + 1)) R2 (sr σ) (oT (sr σ) (st σ) (rwo (pb (sP σ)) (pb (sP σ)) n) j).1 ((rwo (pb (sP σ)) (pb (sP σ)) n) j) hρ (mR_of hr2.2.1 hr2.2.2.1) hn2 ht2 (hrl8 j)) mw_805 mw_807 mw_s19 mw_10 mw_808 sg_X10_plays (by decide) (by decide) (Nat.le_refl _) (Nat.le_refl _) rfl rfl rfl (Nat.le_of_ble_eq_true rfl) dX10_order_111 114 rfl (fun v111 W111 hp111 => ?_)
                      obtain ⟨R111, rfl, rfl, hf111, hs111, -⟩ := hp111
                      show G X 6 0 0 (mW cI q (pu f 12 ((s3 σ : Int) + 1)) R111) [(0, .ref (q 0)), (1, .int (zI a)), (2, .int (zI (bzz (oZ σ n).1 25))), (3, .int (zI (n : Int))), (4, .int (zI ((oT (sr σ) (st σ) (rwo (pb (sP σ)) (pb (sP σ)) n) j).2 : Int))), (5, .int (zI (j : Int)))] 114 [.int (zI (lo (sr σ) ((rwo (pb (sP σ)) (pb (sP σ)) n) j) (oT (sr σ) (st σ) (rwo (pb (sP σ)) (pb (sP σ)) n) j).1 : Int)), .int (zI ((oT (sr σ) (st σ) (rwo (pb (sP σ)) (pb (sP σ)) n) j).2 : Int))]
                      refine zg_iadd hX dX10_order_114 115 rfl ?_
                      refine zg_istore hX [(4, .int (zI (((oT (sr σ) (st σ) (rwo (pb (sP σ)) (pb (sP σ)) n) j).2 : Int) + (lo (sr σ) ((rwo (pb (sP σ)) (pb (sP σ)) n) j) (oT (sr σ) (st σ) (rwo (pb (sP σ)) (pb (sP σ)) n) j).1 : Int)))), (0, .ref (q 0)), (1, .int (zI a)), (2, .int (zI (bzz (oZ σ n).1 25))), (3, .int (zI (n : Int))), (5, .int (zI (j : Int)))] dX10_order_115 (by decide) rfl 117 rfl ?_
                      refine zg_iinc hX [(5, .int (zI ((j : Int) + 1))), (4, .int (zI (((oT (sr σ) (st σ) (rwo (pb (sP σ)) (pb (sP σ)) n) j).2 : Int) + (lo (sr σ) ((rwo (pb (sP σ)) (pb (sP σ)) n) j) (oT (sr σ) (st σ) (rwo (pb (sP σ)) (pb (sP σ)) n) j).1 : Int)))), (0, .ref (q 0)), (1, .int (zI a)), (2, .int (zI (bzz (oZ σ n).1 25))), (3, .int (zI (n : Int)))] 5 rfl dX10_order_117 (by decide) rfl 120 rfl ?_
                      refine zg_goto hX dX10_order_120 92 (by decide) ?_
                      exact zg_lv _ [2, 3, 4, 5, 1, 0] rfl (ih92 (j + 1) R111 _ _ (by omega) (by omega) (fun k a b c => (hf111 k a b c).trans (hR2 k a b c)) (hx2.tr (frR_567 hf111)) (MRel_r hr2 (frR_567 hf111)) (hs111) (tk_be _ _ _) ((Int.natCast_add _ _).symm) (by omega))
                exact zg_lv _ [2, 3, 4, 5, 1, 0] rfl (L92 _ 0 R83 _ _ (Nat.lt_succ_self _) (by omega) (fun k a _ _ => hl83.1 k a) (hx83) (hr83) (hn83) (ht) (rfl) (rfl))
        exact zg_lv _ [2, 3, 1, 0] rfl (L54 _ 0 r _ _ (Nat.lt_succ_self _) (by omega) (frR_rf r) (hmc) (Nat.le_refl 25) (bzz_25 _) (fun e => absurd (show 25 < 25 from e) (by decide)) (rfl) (rfl))
      · refine zg_bipush hX dX10_order_37 39 rfl (by decide) ?_
        exact zg_iret hX hR (Nat.le_refl _) (Nat.le_refl _) rfl dX10_order_39 (qM_ret (by unfold o_order; rw [if_pos (by omega), if_pos (by omega)]) h)
  · refine zg_iload_n hX 1 rfl dX10_order_4 rfl 5 rfl ?_
    refine zg_i2l hX (by omega) dX10_order_5 6 rfl ?_
    refine zg_ldc2 (a := 10) hX mw_888 (by decide) dX10_order_6 9 rfl ?_
    refine zg_ldc2 (a := 15) hX mw_889 (by decide) dX10_order_9 12 rfl ?_
    refine zg_callSi (As := [.long (zL a), .long (zL 10), .long (zL 15)]) (rest := []) hX (c_X10_in l D cI _ a 10 15 (by omega) (by omega) (by omega)) mw_746 mw_747 mw_10 mw_748 sg_X10_in.2 (by decide) (by decide) (Nat.le_refl _) (Nat.le_refl _) rfl (Nat.le_of_ble_eq_true rfl) dX10_order_12 15 rfl ?_
    refine zg_ifb_ne hX dX10_order_15 21 (by decide) 18 rfl (fun h15 => ?_) (fun h15 => ?_)
    · have h15a := of_decide_eq_true h15
      refine zg_aload_n hX 0 rfl dX10_order_21 rfl 22 rfl ?_
      refine zg_callVi (As := []) (rest := []) (k0 := 0) (ci := 9) hX (c_X10_lacks l D cI q f r (sr σ) hρ hm) mw_781 mw_783 mw_s14 mw_10 mw_784 sg_X10_lacks (by decide) (by decide) (Nat.le_refl _) (Nat.le_refl _) rfl rfl rfl (Nat.le_of_ble_eq_true rfl) dX10_order_22 25 rfl ?_
      refine zg_ifb_ne hX dX10_order_25 37 (by decide) 28 rfl (fun h25 => ?_) (fun h25 => ?_)
      · have hlk := of_decide_eq_true h25
        refine zg_bipush hX dX10_order_37 39 rfl (by decide) ?_
        exact zg_iret hX hR (Nat.le_refl _) (Nat.le_refl _) rfl dX10_order_39 (qM_ret (by unfold o_order; rw [if_pos (by omega), if_pos (by omega)]) h)
      · have hlk := of_decide_eq_false h25
        refine zg_aload_n hX 0 rfl dX10_order_28 rfl 29 rfl ?_
        refine mg_0_20 hX mw_661 (s3 σ : Int) h.2.2.2.2.2.2.1 dX10_order_29 32 rfl ?_
        refine zg_bipush hX dX10_order_32 34 rfl (by decide) ?_
        refine zg_icmp_ne hX (by omega) (by omega) dX10_order_34 40 (by decide) 37 rfl (fun h34 => ?_) (fun h34 => ?_)
        · refine zg_aload_n hX 0 rfl dX10_order_40 rfl 41 rfl ?_
          refine zg_dup hX rfl dX10_order_41 42 rfl ?_
          refine mg_0_20 hX mw_661 (s3 σ : Int) h.2.2.2.2.2.2.1 dX10_order_42 45 rfl ?_
          refine zg_iconst hX dX10_order_45 46 rfl ?_
          refine zg_iadd hX dX10_order_46 47 rfl ?_
          refine mp_0_20 hX mw_661 dX10_order_47 50 rfl ?_
          have hsc : sOK (withC σ (s2 σ) (s3 σ + 1)) B := ⟨hσ.1, hσ.2.1, hσ.2.2.1, hσ.2.2.2.1, hσ.2.2.2.2.1, hs1, hs2, by show s3 σ + 1 ≤ 20; omega, hσ.2.2.2.2.2.2.2.2⟩
          have hmc := m_order h
          obtain ⟨m6, hm6n⟩ : ∃ m6, m6 = pb (sP σ) ^ pb (sP σ) := ⟨_, rfl⟩
          have hm6 : (m6 : Int) = ((pb (sP σ) ^ pb (sP σ) : Nat) : Int) := congrArg Int.ofNat hm6n
          have hp6 : 1 ≤ m6 ∧ m6 ≤ 46656 := by rw [hm6n]; exact pow_6 (m := pb (sP σ)) (b := pb (sP σ)) (by omega) hpb6 hpb6
          refine zg_iconst hX dX10_order_50 51 rfl ?_
          refine zg_istore_n hX [(2, .int (zI (-1))), (0, .ref (q 0)), (1, .int (zI a))] dX10_order_51 rfl (by decide) rfl 52 rfl ?_
          refine zg_iconst hX dX10_order_52 53 rfl ?_
          refine zg_istore_n hX [(3, .int (zI 0)), (2, .int (zI (-1))), (0, .ref (q 0)), (1, .int (zI a))] dX10_order_53 rfl (by decide) rfl 54 rfl ?_
          have L54 : ∀ (fuel : Nat) (n : Nat) (R1 : Nat → Nat → Int) (x54_2 : Int) (x54_3 : Int), (m6 - n < fuel) → (n ≤ m6) → (frR r R1) → (MRel (pu f 12 ((s3 σ : Int) + 1)) R1 (withC σ (s2 σ) (s3 σ + 1))) → ((oZ σ n).1 ≤ 25) → (-1 ≤ bzz (oZ σ n).1 25 ∧ bzz (oZ σ n).1 25 ≤ 25) → ((oZ σ n).1 < 25 → ∀ i, i < pb (sP σ) → R1 9 i = ((oZ σ n).2 i : Int)) → x54_2 = (bzz (oZ σ n).1 25) → x54_3 = (n : Int) → G X 6 0 0 (mW cI q (pu f 12 ((s3 σ : Int) + 1)) R1) [(0, .ref (q 0)), (1, .int (zI a)), (2, .int (zI x54_2)), (3, .int (zI x54_3))] 54 [] := by
            intro fuel
            induction fuel with
            | zero =>
              intro n R1 x54_2 x54_3 hm54
              exact absurd hm54 (Nat.not_lt_zero _)
            | succ fuel ih54 =>
              intro n R1 x54_2 x54_3 hm54 hn hx1 hr1 hz7 hbr h9 ex54_2 ex54_3
              subst ex54_2
              subst ex54_3
              refine zg_iload_n hX 3 rfl dX10_order_54 rfl 55 rfl ?_
              refine zg_aload_n hX 0 rfl dX10_order_55 rfl 56 rfl ?_
              refine zg_aload_n hX 0 rfl dX10_order_56 rfl 57 rfl ?_
              refine mg_0_6 hX mw_647 (pb (sP σ) : Int) h.2.1.1 dX10_order_57 60 rfl ?_
              refine zg_callVi (As := [.int (zI (pb (sP σ) : Int))]) (rest := [.int (zI (n : Int))]) (k0 := 0) (ci := 9) hX (c_X10_codes l D cI q (pu f 12 ((s3 σ : Int) + 1)) R1 (withC σ (s2 σ) (s3 σ + 1)) B (pb (sP σ)) hsc hB hr1 (by omega)) mw_894 mw_896 mw_s32 mw_10 mw_897 sg_X10_codes (by decide) (by decide) (Nat.le_refl _) (Nat.le_refl _) rfl rfl rfl (Nat.le_of_ble_eq_true rfl) dX10_order_60 63 rfl ?_
              have e63 : (((pb (sP σ) ^ pb (sP σ) : Nat) : Int) : Int) = (m6 : Int) := hm6.symm
              refine zg_to (lv2 := [(0, .ref (q 0)), (1, .int (zI a)), (2, .int (zI (bzz (oZ σ n).1 25))), (3, .int (zI (n : Int)))]) (ws2 := (mW cI q (pu f 12 ((s3 σ : Int) + 1)) R1)) (st2 := [.int (zI (m6 : Int)), .int (zI (n : Int))]) ?_ rfl rfl (by first | (rw [e63]; done) | (rw [← e63]; done) | (rw [← e63]; rfl))
              refine zg_icmp_ge hX (by omega) (by omega) dX10_order_63 154 (by decide) 66 rfl (fun h63 => ?_) (fun h63 => ?_)
              · have hno : n = pb (sP σ) ^ pb (sP σ) := (show n = m6 by omega).trans hm6n
                have h24 : (ordR σ).1 ≤ 24 := ordR_24 hρ
                have hzr : oZ σ n = ordR σ := by rw [ordR_Z, hno]
                have hbe : bzz (oZ σ n).1 25 = ((ordR σ).1 : Int) := by rw [hzr]; unfold bzz; rw [if_neg (by omega)]
                rw [hzr] at h9
                refine zg_iload_n hX 1 rfl dX10_order_154 rfl 155 rfl ?_
                refine zg_if_ne hX (by omega) dX10_order_155 162 (by decide) 158 rfl (fun h155 => ?_) (fun h155 => ?_)
                · refine zg_iload_n hX 1 rfl dX10_order_162 rfl 163 rfl ?_
                  refine zg_bipush hX dX10_order_163 165 rfl (by decide) ?_
                  refine zg_isub hX dX10_order_165 166 rfl ?_
                  refine zg_aload_n hX 0 rfl dX10_order_166 rfl 167 rfl ?_
                  refine mg_0_6 hX mw_647 (pb (sP σ) : Int) h.2.1.1 dX10_order_167 170 rfl ?_
                  refine zg_icmp_ge hX (by omega) (by omega) dX10_order_170 185 (by decide) 173 rfl (fun h170 => ?_) (fun h170 => ?_)
                  · refine zg_iconst hX dX10_order_185 186 rfl ?_
                    exact zg_iret hX hR (Nat.le_refl _) (Nat.le_refl _) rfl dX10_order_186 (qM_ret (by unfold o_order ordA; rw [if_pos (by omega), if_neg (by omega)]; first | (rw [if_pos (by omega), hbe]; done) | (rw [if_neg (by omega), if_pos (by omega)]; done) | (rw [if_neg (by omega), if_neg (by omega)]; done)) hr1)
                  · refine zg_aload_n hX 0 rfl dX10_order_173 rfl 174 rfl ?_
                    refine mg_0_22 hX mw_663 dX10_order_174 177 rfl ?_
                    refine zg_iload_n hX 1 rfl dX10_order_177 rfl 178 rfl ?_
                    refine zg_bipush hX dX10_order_178 180 rfl (by decide) ?_
                    refine zg_isub hX dX10_order_180 181 rfl ?_
                    have e181 : (a - 10 : Int) = (((a - 10).toNat : Nat) : Int) := by omega
                    refine zg_to (lv2 := [(0, .ref (q 0)), (1, .int (zI a)), (2, .int (zI (bzz (oZ σ n).1 25))), (3, .int (zI (n : Int)))]) (ws2 := (mW cI q (pu f 12 ((s3 σ : Int) + 1)) R1)) (st2 := [.int (zI (((a - 10).toNat : Nat) : Int)), .ref (q 10)]) ?_ rfl rfl (by first | (rw [e181]; done) | (rw [← e181]; done) | (rw [← e181]; rfl))
                    refine ma_10 hX ((a - 10).toNat) ((ordR σ).2 (a - 10).toNat : Int) (by omega) (by omega) (h9 (by omega) _ (by omega)) dX10_order_181 182 rfl ?_
                    refine zg_goto hX dX10_order_182 186 (by decide) ?_
                    exact zg_iret hX hR (Nat.le_refl _) (Nat.le_refl _) rfl dX10_order_186 (qM_ret (by unfold o_order ordA; rw [if_pos (by omega), if_neg (by omega)]; first | (rw [if_pos (by omega), hbe]; done) | (rw [if_neg (by omega), if_pos (by omega)]; done) | (rw [if_neg (by omega), if_neg (by omega)]; done)) hr1)
                · refine zg_iload_n hX 2 rfl dX10_order_158 rfl 159 rfl ?_
                  refine zg_goto hX dX10_order_159 186 (by decide) ?_
                  exact zg_iret hX hR (Nat.le_refl _) (Nat.le_refl _) rfl dX10_order_186 (qM_ret (by unfold o_order ordA; rw [if_pos (by omega), if_neg (by omega)]; first | (rw [if_pos (by omega), hbe]; done) | (rw [if_neg (by omega), if_pos (by omega)]; done) | (rw [if_neg (by omega), if_neg (by omega)]; done)) hr1)
              · refine zg_aload_n hX 0 rfl dX10_order_66 rfl 67 rfl ?_
                refine zg_iload_n hX 3 rfl dX10_order_67 rfl 68 rfl ?_
                refine zg_aload_n hX 0 rfl dX10_order_68 rfl 69 rfl ?_
                refine mg_0_6 hX mw_647 (pb (sP σ) : Int) h.2.1.1 dX10_order_69 72 rfl ?_
                refine zg_callV (As := [.int (zI (n : Int)), .int (zI (pb (sP σ) : Int))]) (rest := []) (k0 := 0) (ci := 9) hX (c_X10_layRow l D cI q (pu f 12 ((s3 σ : Int) + 1)) R1 (withC σ (s2 σ) (s3 σ + 1)) B n (pb (sP σ)) hsc hB hr1 (by omega) (by omega)) mw_898 mw_900 mw_s33 mw_10 mw_901 sg_X10_layRow (by decide) (by decide) (Nat.le_refl _) (Nat.le_refl _) rfl rfl rfl (Nat.le_of_ble_eq_true rfl) dX10_order_72 75 rfl (fun v72 W72 hp72 => ?_)
                obtain ⟨R72, rfl, rfl, hk72, h872⟩ := hp72
                show G X 6 0 0 (mW cI q (pu f 12 ((s3 σ : Int) + 1)) R72) [(0, .ref (q 0)), (1, .int (zI a)), (2, .int (zI (bzz (oZ σ n).1 25))), (3, .int (zI (n : Int)))] 75 []
                have hx72 : frR r R72 := hx1.tr (frR_1 hk72 (by omega))
                have hr72 : MRel (pu f 12 ((s3 σ : Int) + 1)) R72 (withC σ (s2 σ) (s3 σ + 1)) := MRel_r hmc hx72
                have hrl8 := fun i => rwo_lt (m := pb (sP σ)) (B := pb (sP σ)) (n := n) (by omega) i
                refine zg_aload_n hX 0 rfl dX10_order_75 rfl 76 rfl ?_
                refine zg_callVi (As := []) (rest := []) (k0 := 0) (ci := 9) hX (c_X10_isOrder l D cI q (pu f 12 ((s3 σ : Int) + 1)) R72 (withC σ (s2 σ) (s3 σ + 1)) B (rwo (pb (sP σ)) (pb (sP σ)) n) hsc hB hr72 h872 hrl8) mw_910 mw_912 mw_s35 mw_10 mw_913 sg_X10_isOrder (by decide) (by decide) (Nat.le_refl _) (Nat.le_refl _) rfl rfl rfl (Nat.le_of_ble_eq_true rfl) dX10_order_76 79 rfl ?_
                refine zg_ifb_eq hX dX10_order_79 148 (by decide) 82 rfl (fun h79 => ?_) (fun h79 => ?_)
                · have hz : oZ σ (n + 1) = oZ σ n := oZ_no hpb6 (by omega) h79
                  have hxe : frR r R72 := hx72
                  have h9e : R72 9 = R1 9 := hk72 9 (by decide)
                  refine zg_iinc hX [(3, .int (zI ((n : Int) + 1))), (0, .ref (q 0)), (1, .int (zI a)), (2, .int (zI (bzz (oZ σ n).1 25)))] 3 rfl dX10_order_148 (by decide) rfl 151 rfl ?_
                  refine zg_goto hX dX10_order_151 54 (by decide) ?_
                  exact zg_lv _ [1, 2, 3, 0] rfl (ih54 (n + 1) R72 _ _ (by omega) (by omega) (by first | exact hxf | exact hxe) (by first | exact MRel_r hmc hxf | exact MRel_r hmc hxe) (by first | (rw [hz]; exact hz7) | (rw [hz1]; omega)) (bzz_25 _) (by first | (rw [hz, h9e]; exact h9) | exact (fun _ i hi => by rw [hz2, hl145.2 i (by omega)]; exact h8e i hi)) (by first | (rw [hz]; done) | (rw [hz1]; exact bzz_in2 (by omega))) (by omega))
                · have hy := oZ_yes hpb6 (by omega) h79
                  refine zg_aload_n hX 0 rfl dX10_order_82 rfl 83 rfl ?_
                  refine zg_callV (As := []) (rest := []) (k0 := 0) (ci := 9) hX (c_X10_asItIs l D cI q (pu f 12 ((s3 σ : Int) + 1)) R72 (sr σ) hρ (mR_of hr72.2.1 hr72.2.2.1)) mw_797 mw_799 mw_s17 mw_10 mw_800 sg_X10_asItIs (by decide) (by decide) (Nat.le_refl _) (Nat.le_refl _) rfl rfl rfl (Nat.le_of_ble_eq_true rfl) dX10_order_83 86 rfl (fun v83 W83 hp83 => ?_)
                  obtain ⟨R83, rfl, rfl, hl83⟩ := hp83
                  show G X 6 0 0 (mW cI q (pu f 12 ((s3 σ : Int) + 1)) R83) [(0, .ref (q 0)), (1, .int (zI a)), (2, .int (zI (bzz (oZ σ n).1 25))), (3, .int (zI (n : Int)))] 86 []
                  have hx83 : frR r R83 := hx72.tr (frR_lay hl83 (by omega))
                  have hr83 : MRel (pu f 12 ((s3 σ : Int) + 1)) R83 (withC σ (s2 σ) (s3 σ + 1)) := MRel_r hmc hx83
                  have hn83 : ∀ p, p < rn (sr σ) → R83 5 p = (st σ p : Int) := fun p hp => (hl83.2 p hp).trans (hr72.2.2.1.2.2.2.2.2.1 p hp)
                  refine zg_iconst hX dX10_order_86 87 rfl ?_
                  refine zg_istore hX [(4, .int (zI 0)), (0, .ref (q 0)), (1, .int (zI a)), (2, .int (zI (bzz (oZ σ n).1 25))), (3, .int (zI (n : Int)))] dX10_order_87 (by decide) rfl 89 rfl ?_
                  refine zg_iconst hX dX10_order_89 90 rfl ?_
                  refine zg_istore hX [(5, .int (zI 0)), (4, .int (zI 0)), (0, .ref (q 0)), (1, .int (zI a)), (2, .int (zI (bzz (oZ σ n).1 25))), (3, .int (zI (n : Int)))] dX10_order_90 (by decide) rfl 92 rfl ?_
                  have L92 : ∀ (fuel : Nat) (j : Nat) (R2 : Nat → Nat → Int) (x92_4 : Int) (x92_5 : Int), (pb (sP σ) - j < fuel) → (j ≤ pb (sP σ)) → (∀ k, k ≠ 5 → k ≠ 6 → k ≠ 7 → R2 k = R72 k) → (frR r R2) → (MRel (pu f 12 ((s3 σ : Int) + 1)) R2 (withC σ (s2 σ) (s3 σ + 1))) → (∀ p, p < rn (sr σ) → R2 5 p = ((oT (sr σ) (st σ) (rwo (pb (sP σ)) (pb (sP σ)) n) j).1 p : Int)) → (tk (sr σ) (oT (sr σ) (st σ) (rwo (pb (sP σ)) (pb (sP σ)) n) j).1) → x92_4 = ((oT (sr σ) (st σ) (rwo (pb (sP σ)) (pb (sP σ)) n) j).2 : Int) → x92_5 = (j : Int) → G X 6 0 0 (mW cI q (pu f 12 ((s3 σ : Int) + 1)) R2) [(0, .ref (q 0)), (1, .int (zI a)), (2, .int (zI (bzz (oZ σ n).1 25))), (3, .int (zI (n : Int))), (4, .int (zI x92_4)), (5, .int (zI x92_5))] 92 [] := by
                    intro fuel
                    induction fuel with
                    | zero =>
                      intro j R2 x92_4 x92_5 hm92
                      exact absurd hm92 (Nat.not_lt_zero _)
                    | succ fuel ih92 =>
                      intro j R2 x92_4 x92_5 hm92 hj hR2 hx2 hr2 hn2 ht2 ex92_4 ex92_5
                      subst ex92_4
                      subst ex92_5
                      refine zg_iload hX 5 rfl dX10_order_92 94 rfl ?_
                      refine zg_aload_n hX 0 rfl dX10_order_94 rfl 95 rfl ?_
                      refine mg_0_6 hX mw_647 (pb (sP σ) : Int) h.2.1.1 dX10_order_95 98 rfl ?_
                      refine zg_icmp_ge hX (by omega) (by omega) dX10_order_98 123 (by decide) 101 rfl (fun h98 => ?_) (fun h98 => ?_)
                      · have el123_4 : (((oT (sr σ) (st σ) (rwo (pb (sP σ)) (pb (sP σ)) n) j).2 : Int) : Int) = ((oT (sr σ) (st σ) (rwo (pb (sP σ)) (pb (sP σ)) n) (pb (sP σ))).2 : Int) := by rw [show j = pb (sP σ) by omega]
                        refine zg_to (lv2 := [(0, .ref (q 0)), (1, .int (zI a)), (2, .int (zI (bzz (oZ σ n).1 25))), (3, .int (zI (n : Int))), (4, .int (zI ((oT (sr σ) (st σ) (rwo (pb (sP σ)) (pb (sP σ)) n) (pb (sP σ))).2 : Int))), (5, .int (zI (j : Int)))]) (ws2 := (mW cI q (pu f 12 ((s3 σ : Int) + 1)) R2)) (st2 := []) ?_ rfl (by rw [← el123_4]) rfl
                        have hxe : frR r R2 := hx2
                        have h9e : R2 9 = R1 9 := by rw [hR2 9 (by decide) (by decide) (by decide), hk72 9 (by decide)]
                        have h8e : ∀ i, i < pb (sP σ) → R2 8 i = ((rwo (pb (sP σ)) (pb (sP σ)) n) i : Int) := fun i hi => by rw [hR2 8 (by decide) (by decide) (by decide)]; exact h872 i hi
                        have hol := oT_le hρ (t := st σ) (row := rwo (pb (sP σ)) (pb (sP σ)) n) (pb (sP σ))
                        refine zg_iload_n hX 2 rfl dX10_order_123 rfl 124 rfl ?_
                        refine zg_iconst hX dX10_order_124 125 rfl ?_
                        refine zg_icmp_eq hX (by omega) (by omega) dX10_order_125 134 (by decide) 128 rfl (fun h125 => ?_) (fun h125 => ?_)
                        · have hb7 : (oZ σ n).1 = 25 := by unfold bzz at h125; revert h125; split <;> omega
                          have hlt : (oT (sr σ) (st σ) (rwo (pb (sP σ)) (pb (sP σ)) n) (pb (sP σ))).2 < (oZ σ n).1 := by omega
                          have hz2 : oZ σ (n + 1) = ((oT (sr σ) (st σ) (rwo (pb (sP σ)) (pb (sP σ)) n) (pb (sP σ))).2, rwo (pb (sP σ)) (pb (sP σ)) n) := by rw [hy, if_pos hlt]
                          have hz1 : (oZ σ (n + 1)).1 = (oT (sr σ) (st σ) (rwo (pb (sP σ)) (pb (sP σ)) n) (pb (sP σ))).2 := by rw [hz2]
                          refine zg_iload hX 4 rfl dX10_order_134 136 rfl ?_
                          refine zg_istore_n hX [(2, .int (zI ((oT (sr σ) (st σ) (rwo (pb (sP σ)) (pb (sP σ)) n) (pb (sP σ))).2 : Int))), (0, .ref (q 0)), (1, .int (zI a)), (3, .int (zI (n : Int))), (4, .int (zI ((oT (sr σ) (st σ) (rwo (pb (sP σ)) (pb (sP σ)) n) (pb (sP σ))).2 : Int))), (5, .int (zI (j : Int)))] dX10_order_136 rfl (by decide) rfl 137 rfl ?_
                          refine zg_aload_n hX 1 rfl dX10_order_137 rfl 138 rfl ?_
                          refine mg_0_21 hX mw_662 dX10_order_138 141 rfl ?_
                          refine zg_aload_n hX 1 rfl dX10_order_141 rfl 142 rfl ?_
                          refine mg_0_22 hX mw_663 dX10_order_142 145 rfl ?_
                          refine zg_callS (As := [.ref (q 9), .ref (q 10)]) (rest := []) hX (c_X10_copy_8_9 l D cI q (pu f 12 ((s3 σ : Int) + 1)) R2) mw_774 mw_775 mw_10 mw_776 sg_X10_copy.2 (by decide) (by decide) (Nat.le_refl _) (Nat.le_refl _) rfl (Nat.le_of_ble_eq_true rfl) dX10_order_145 148 rfl (fun v145 W145 hp145 => ?_)
                          obtain ⟨R145, rfl, rfl, hl145⟩ := hp145
                          show G X 6 0 0 (mW cI q (pu f 12 ((s3 σ : Int) + 1)) R145) [(2, .int (zI ((oT (sr σ) (st σ) (rwo (pb (sP σ)) (pb (sP σ)) n) (pb (sP σ))).2 : Int))), (0, .ref (q 0)), (1, .int (zI a)), (3, .int (zI (n : Int))), (4, .int (zI ((oT (sr σ) (st σ) (rwo (pb (sP σ)) (pb (sP σ)) n) (pb (sP σ))).2 : Int))), (5, .int (zI (j : Int)))] 148 []
                          have hxf : frR r R145 := hx2.tr (frR_lay hl145 (by omega))
                          refine zg_iinc hX [(3, .int (zI ((n : Int) + 1))), (2, .int (zI ((oT (sr σ) (st σ) (rwo (pb (sP σ)) (pb (sP σ)) n) (pb (sP σ))).2 : Int))), (0, .ref (q 0)), (1, .int (zI a)), (4, .int (zI ((oT (sr σ) (st σ) (rwo (pb (sP σ)) (pb (sP σ)) n) (pb (sP σ))).2 : Int))), (5, .int (zI (j : Int)))] 3 rfl dX10_order_148 (by decide) rfl 151 rfl ?_
                          refine zg_goto hX dX10_order_151 54 (by decide) ?_
                          exact zg_lv _ [2, 3, 1, 0] rfl (ih54 (n + 1) R145 _ _ (by omega) (by omega) (by first | exact hxf | exact hxe) (by first | exact MRel_r hmc hxf | exact MRel_r hmc hxe) (by first | (rw [hz]; exact hz7) | (rw [hz1]; omega)) (bzz_25 _) (by first | (rw [hz, h9e]; exact h9) | exact (fun _ i hi => by rw [hz2, hl145.2 i (by omega)]; exact h8e i hi)) (by first | (rw [hz]; done) | (rw [hz1]; exact bzz_in2 (by omega))) (by omega))
                        · have hb7 : bzz (oZ σ n).1 25 = ((oZ σ n).1 : Int) := by unfold bzz at h125 ⊢; revert h125; split <;> omega
                          refine zg_iload hX 4 rfl dX10_order_128 130 rfl ?_
                          refine zg_iload_n hX 2 rfl dX10_order_130 rfl 131 rfl ?_
                          refine zg_icmp_ge hX (by omega) (by omega) dX10_order_131 148 (by decide) 134 rfl (fun h131 => ?_) (fun h131 => ?_)
                          · have hz : oZ σ (n + 1) = oZ σ n := by rw [hy, if_neg (by omega)]
                            refine zg_iinc hX [(3, .int (zI ((n : Int) + 1))), (0, .ref (q 0)), (1, .int (zI a)), (2, .int (zI (bzz (oZ σ n).1 25))), (4, .int (zI ((oT (sr σ) (st σ) (rwo (pb (sP σ)) (pb (sP σ)) n) (pb (sP σ))).2 : Int))), (5, .int (zI (j : Int)))] 3 rfl dX10_order_148 (by decide) rfl 151 rfl ?_
                            refine zg_goto hX dX10_order_151 54 (by decide) ?_
                            exact zg_lv _ [1, 2, 3, 0] rfl (ih54 (n + 1) R2 _ _ (by omega) (by omega) (by first | exact hxf | exact hxe) (by first | exact MRel_r hmc hxf | exact MRel_r hmc hxe) (by first | (rw [hz]; exact hz7) | (rw [hz1]; omega)) (bzz_25 _) (by first | (rw [hz, h9e]; exact h9) | exact (fun _ i hi => by rw [hz2, hl145.2 i (by omega)]; exact h8e i hi)) (by first | (rw [hz]; done) | (rw [hz1]; exact bzz_in2 (by omega))) (by omega))
                          · have hlt : (oT (sr σ) (st σ) (rwo (pb (sP σ)) (pb (sP σ)) n) (pb (sP σ))).2 < (oZ σ n).1 := by omega
                            have hz2 : oZ σ (n + 1) = ((oT (sr σ) (st σ) (rwo (pb (sP σ)) (pb (sP σ)) n) (pb (sP σ))).2, rwo (pb (sP σ)) (pb (sP σ)) n) := by rw [hy, if_pos hlt]
                            have hz1 : (oZ σ (n + 1)).1 = (oT (sr σ) (st σ) (rwo (pb (sP σ)) (pb (sP σ)) n) (pb (sP σ))).2 := by rw [hz2]
                            refine zg_iload hX 4 rfl dX10_order_134 136 rfl ?_
                            refine zg_istore_n hX [(2, .int (zI ((oT (sr σ) (st σ) (rwo (pb (sP σ)) (pb (sP σ)) n) (pb (sP σ))).2 : Int))), (0, .ref (q 0)), (1, .int (zI a)), (3, .int (zI (n : Int))), (4, .int (zI ((oT (sr σ) (st σ) (rwo (pb (sP σ)) (pb (sP σ)) n) (pb (sP σ))).2 : Int))), (5, .int (zI (j : Int)))] dX10_order_136 rfl (by decide) rfl 137 rfl ?_
                            refine zg_aload_n hX 1 rfl dX10_order_137 rfl 138 rfl ?_
                            refine mg_0_21 hX mw_662 dX10_order_138 141 rfl ?_
                            refine zg_aload_n hX 1 rfl dX10_order_141 rfl 142 rfl ?_
                            refine mg_0_22 hX mw_663 dX10_order_142 145 rfl ?_
                            refine zg_callS (As := [.ref (q 9), .ref (q 10)]) (rest := []) hX (c_X10_copy_8_9 l D cI q (pu f 12 ((s3 σ : Int) + 1)) R2) mw_774 mw_775 mw_10 mw_776 sg_X10_copy.2 (by decide) (by decide) (Nat.le_refl _) (Nat.le_refl _) rfl (Nat.le_of_ble_eq_true rfl) dX10_order_145 148 rfl (fun v145 W145 hp145 => ?_)
                            obtain ⟨R145, rfl, rfl, hl145⟩ := hp145
                            show G X 6 0 0 (mW cI q (pu f 12 ((s3 σ : Int) + 1)) R145) [(2, .int (zI ((oT (sr σ) (st σ) (rwo (pb (sP σ)) (pb (sP σ)) n) (pb (sP σ))).2 : Int))), (0, .ref (q 0)), (1, .int (zI a)), (3, .int (zI (n : Int))), (4, .int (zI ((oT (sr σ) (st σ) (rwo (pb (sP σ)) (pb (sP σ)) n) (pb (sP σ))).2 : Int))), (5, .int (zI (j : Int)))] 148 []
                            have hxf : frR r R145 := hx2.tr (frR_lay hl145 (by omega))
                            refine zg_iinc hX [(3, .int (zI ((n : Int) + 1))), (2, .int (zI ((oT (sr σ) (st σ) (rwo (pb (sP σ)) (pb (sP σ)) n) (pb (sP σ))).2 : Int))), (0, .ref (q 0)), (1, .int (zI a)), (4, .int (zI ((oT (sr σ) (st σ) (rwo (pb (sP σ)) (pb (sP σ)) n) (pb (sP σ))).2 : Int))), (5, .int (zI (j : Int)))] 3 rfl dX10_order_148 (by decide) rfl 151 rfl ?_
                            refine zg_goto hX dX10_order_151 54 (by decide) ?_
                            exact zg_lv _ [2, 3, 1, 0] rfl (ih54 (n + 1) R145 _ _ (by omega) (by omega) (by first | exact hxf | exact hxe) (by first | exact MRel_r hmc hxf | exact MRel_r hmc hxe) (by first | (rw [hz]; exact hz7) | (rw [hz1]; omega)) (bzz_25 _) (by first | (rw [hz, h9e]; exact h9) | exact (fun _ i hi => by rw [hz2, hl145.2 i (by omega)]; exact h8e i hi)) (by first | (rw [hz]; done) | (rw [hz1]; exact bzz_in2 (by omega))) (by omega))
                      · refine zg_iload hX 4 rfl dX10_order_101 103 rfl ?_
                        refine zg_aload_n hX 0 rfl dX10_order_103 rfl 104 rfl ?_
                        refine zg_aload_n hX 0 rfl dX10_order_104 rfl 105 rfl ?_
                        refine mg_0_21 hX mw_662 dX10_order_105 108 rfl ?_
                        refine zg_iload hX 5 rfl dX10_order_108 110 rfl ?_
                        refine ma_9 hX j ((rwo (pb (sP σ)) (pb (sP σ)) n) j : Int) (by omega) (by omega) (by rw [hR2 8 (by decide) (by decide) (by decide)]; exact h872 j (show j < pb (sP σ) by omega)) dX10_order_110 111 rfl ?_
                        refine zg_callV (As := [.int (zI ((rwo (pb (sP σ)) (pb (sP σ)) n) j : Int))]) (rest := [.int (zI ((oT (sr σ) (st σ) (rwo (pb (sP σ)) (pb (sP σ)) n) j).2 : Int))]) (k0 := 0) (ci := 9) hX (c_X10_plays l D cI q (pu f 12 ((s3 σ : Int) + 1)) R2 (sr σ) (oT (sr σ) (st σ) (rwo (pb (sP σ)) (pb (sP σ)) n) j).1 ((rwo (pb (sP σ)) (pb (sP σ)) n) j) hρ (mR_of hr2.2.1 hr2.2.2.1) hn2 ht2 (hrl8 j)) mw_805 mw_807 mw_s19 mw_10 mw_808 sg_X10_plays (by decide) (by decide) (Nat.le_refl _) (Nat.le_refl _) rfl rfl rfl (Nat.le_of_ble_eq_true rfl) dX10_order_111 114 rfl (fun v111 W111 hp111 => ?_)
                        obtain ⟨R111, rfl, rfl, hf111, hs111, -⟩ := hp111
                        show G X 6 0 0 (mW cI q (pu f 12 ((s3 σ : Int) + 1)) R111) [(0, .ref (q 0)), (1, .int (zI a)), (2, .int (zI (bzz (oZ σ n).1 25))), (3, .int (zI (n : Int))), (4, .int (zI ((oT (sr σ) (st σ) (rwo (pb (sP σ)) (pb (sP σ)) n) j).2 : Int))), (5, .int (zI (j : Int)))] 114 [.int (zI (lo (sr σ) ((rwo (pb (sP σ)) (pb (sP σ)) n) j) (oT (sr σ) (st σ) (rwo (pb (sP σ)) (pb (sP σ)) n) j).1 : Int)), .int (zI ((oT (sr σ) (st σ) (rwo (pb (sP σ)) (pb (sP σ)) n) j).2 : Int))]
                        refine zg_iadd hX dX10_order_114 115 rfl ?_
                        refine zg_istore hX [(4, .int (zI (((oT (sr σ) (st σ) (rwo (pb (sP σ)) (pb (sP σ)) n) j).2 : Int) + (lo (sr σ) ((rwo (pb (sP σ)) (pb (sP σ)) n) j) (oT (sr σ) (st σ) (rwo (pb (sP σ)) (pb (sP σ)) n) j).1 : Int)))), (0, .ref (q 0)), (1, .int (zI a)), (2, .int (zI (bzz (oZ σ n).1 25))), (3, .int (zI (n : Int))), (5, .int (zI (j : Int)))] dX10_order_115 (by decide) rfl 117 rfl ?_
                        refine zg_iinc hX [(5, .int (zI ((j : Int) + 1))), (4, .int (zI (((oT (sr σ) (st σ) (rwo (pb (sP σ)) (pb (sP σ)) n) j).2 : Int) + (lo (sr σ) ((rwo (pb (sP σ)) (pb (sP σ)) n) j) (oT (sr σ) (st σ) (rwo (pb (sP σ)) (pb (sP σ)) n) j).1 : Int)))), (0, .ref (q 0)), (1, .int (zI a)), (2, .int (zI (bzz (oZ σ n).1 25))), (3, .int (zI (n : Int)))] 5 rfl dX10_order_117 (by decide) rfl 120 rfl ?_
                        refine zg_goto hX dX10_order_120 92 (by decide) ?_
                        exact zg_lv _ [2, 3, 4, 5, 1, 0] rfl (ih92 (j + 1) R111 _ _ (by omega) (by omega) (fun k a b c => (hf111 k a b c).trans (hR2 k a b c)) (hx2.tr (frR_567 hf111)) (MRel_r hr2 (frR_567 hf111)) (hs111) (tk_be _ _ _) ((Int.natCast_add _ _).symm) (by omega))
                  exact zg_lv _ [2, 3, 4, 5, 1, 0] rfl (L92 _ 0 R83 _ _ (Nat.lt_succ_self _) (by omega) (fun k a _ _ => hl83.1 k a) (hx83) (hr83) (hn83) (ht) (rfl) (rfl))
          exact zg_lv _ [2, 3, 1, 0] rfl (L54 _ 0 r _ _ (Nat.lt_succ_self _) (by omega) (frR_rf r) (hmc) (Nat.le_refl 25) (bzz_25 _) (fun e => absurd (show 25 < 25 from e) (by decide)) (rfl) (rfl))
        · refine zg_bipush hX dX10_order_37 39 rfl (by decide) ?_
          exact zg_iret hX hR (Nat.le_refl _) (Nat.le_refl _) rfl dX10_order_39 (qM_ret (by unfold o_order; rw [if_pos (by omega), if_pos (by omega)]) h)
    · have h15a := of_decide_eq_false h15
      refine zg_bipush hX dX10_order_18 20 rfl (by decide) ?_
      exact zg_iret hX hR (Nat.le_refl _) (Nat.le_refl _) rfl dX10_order_20 (qM_ret (by unfold o_order; rw [if_neg (by omega)]) h)
