theorem sg_X9_letter : yX9_letter.cls = RX9 ∧ yX9_letter.cls ≠ "java/lang/invoke/MethodHandle" ∧ yX9_letter.cls ≠ "java/lang/invoke/VarHandle" ∧ (parseMethodDescriptor yX9_letter.desc).map (fun d => d.parameters.length) = some 1 := by decide +kernel
theorem sg_X9_blank : yX9_blank.cls = RX9 ∧ yX9_blank.cls ≠ "java/lang/invoke/MethodHandle" ∧ yX9_blank.cls ≠ "java/lang/invoke/VarHandle" ∧ (parseMethodDescriptor yX9_blank.desc).map (fun d => d.parameters.length) = some 0 := by decide +kernel
theorem sg_X9_fault : yX9_fault.cls = RX9 ∧ yX9_fault.cls ≠ "java/lang/invoke/MethodHandle" ∧ yX9_fault.cls ≠ "java/lang/invoke/VarHandle" ∧ (parseMethodDescriptor yX9_fault.desc).map (fun d => d.parameters.length) = some 0 := by decide +kernel
theorem sg_X9_piece : yX9_piece.cls = RX9 ∧ yX9_piece.cls ≠ "java/lang/invoke/MethodHandle" ∧ yX9_piece.cls ≠ "java/lang/invoke/VarHandle" ∧ (parseMethodDescriptor yX9_piece.desc).map (fun d => d.parameters.length) = some 0 := by decide +kernel
theorem sg_X9_ofBar : yX9_ofBar.cls = RX9 ∧ yX9_ofBar.cls ≠ "java/lang/invoke/MethodHandle" ∧ yX9_ofBar.cls ≠ "java/lang/invoke/VarHandle" ∧ (parseMethodDescriptor yX9_ofBar.desc).map (fun d => d.parameters.length) = some 3 := by decide +kernel
theorem sg_X9_bar : yX9_bar.cls = RX9 ∧ yX9_bar.cls ≠ "java/lang/invoke/MethodHandle" ∧ yX9_bar.cls ≠ "java/lang/invoke/VarHandle" ∧ (parseMethodDescriptor yX9_bar.desc).map (fun d => d.parameters.length) = some 2 := by decide +kernel
theorem sg_X9_player : yX9_player.cls = RX9 ∧ yX9_player.cls ≠ "java/lang/invoke/MethodHandle" ∧ yX9_player.cls ≠ "java/lang/invoke/VarHandle" ∧ (parseMethodDescriptor yX9_player.desc).map (fun d => d.parameters.length) = some 2 := by decide +kernel
theorem sg_X9_shareOfNext : yX9_shareOfNext.cls = RX9 ∧ yX9_shareOfNext.cls ≠ "java/lang/invoke/MethodHandle" ∧ yX9_shareOfNext.cls ≠ "java/lang/invoke/VarHandle" ∧ (parseMethodDescriptor yX9_shareOfNext.desc).map (fun d => d.parameters.length) = some 1 := by decide +kernel
theorem sg_X9_ofPlayer : yX9_ofPlayer.cls = RX9 ∧ yX9_ofPlayer.cls ≠ "java/lang/invoke/MethodHandle" ∧ yX9_ofPlayer.cls ≠ "java/lang/invoke/VarHandle" ∧ (parseMethodDescriptor yX9_ofPlayer.desc).map (fun d => d.parameters.length) = some 2 := by decide +kernel
theorem sg_X9_about : yX9_about.cls = RX9 ∧ yX9_about.cls ≠ "java/lang/invoke/MethodHandle" ∧ yX9_about.cls ≠ "java/lang/invoke/VarHandle" ∧ (parseMethodDescriptor yX9_about.desc).map (fun d => d.parameters.length) = some 2 := by decide +kernel
theorem sg_X9_as : yX9_as.cls = RX9 ∧ yX9_as.cls ≠ "java/lang/invoke/MethodHandle" ∧ yX9_as.cls ≠ "java/lang/invoke/VarHandle" ∧ (parseMethodDescriptor yX9_as.desc).map (fun d => d.parameters.length) = some 2 := by decide +kernel
theorem sg_X9_coffee : yX9_coffee.cls = RX9 ∧ yX9_coffee.cls ≠ "java/lang/invoke/MethodHandle" ∧ yX9_coffee.cls ≠ "java/lang/invoke/VarHandle" ∧ (parseMethodDescriptor yX9_coffee.desc).map (fun d => d.parameters.length) = some 1 := by decide +kernel
theorem sg_X9_tire : yX9_tire.cls = RX9 ∧ yX9_tire.cls ≠ "java/lang/invoke/MethodHandle" ∧ yX9_tire.cls ≠ "java/lang/invoke/VarHandle" ∧ (parseMethodDescriptor yX9_tire.desc).map (fun d => d.parameters.length) = some 2 := by decide +kernel
theorem sg_X9_play : yX9_play.cls = RX9 ∧ yX9_play.cls ≠ "java/lang/invoke/MethodHandle" ∧ yX9_play.cls ≠ "java/lang/invoke/VarHandle" ∧ (parseMethodDescriptor yX9_play.desc).map (fun d => d.parameters.length) = some 0 := by decide +kernel
theorem sg_X9_again : yX9_again.cls = RX9 ∧ yX9_again.cls ≠ "java/lang/invoke/MethodHandle" ∧ yX9_again.cls ≠ "java/lang/invoke/VarHandle" ∧ (parseMethodDescriptor yX9_again.desc).map (fun d => d.parameters.length) = some 0 := by decide +kernel
theorem sg_X9_hearing : yX9_hearing.cls = RX9 ∧ yX9_hearing.cls ≠ "java/lang/invoke/MethodHandle" ∧ yX9_hearing.cls ≠ "java/lang/invoke/VarHandle" ∧ (parseMethodDescriptor yX9_hearing.desc).map (fun d => d.parameters.length) = some 1 := by decide +kernel
theorem sg_X9_cups : yX9_cups.cls = RX9 ∧ yX9_cups.cls ≠ "java/lang/invoke/MethodHandle" ∧ yX9_cups.cls ≠ "java/lang/invoke/VarHandle" ∧ (parseMethodDescriptor yX9_cups.desc).map (fun d => d.parameters.length) = some 1 := by decide +kernel
theorem sg_X9_order : yX9_order.cls = RX9 ∧ yX9_order.cls ≠ "java/lang/invoke/MethodHandle" ∧ yX9_order.cls ≠ "java/lang/invoke/VarHandle" ∧ (parseMethodDescriptor yX9_order.desc).map (fun d => d.parameters.length) = some 1 := by decide +kernel
theorem sg_X9_tell : yX9_tell.cls = RX9 ∧ yX9_tell.cls ≠ "java/lang/invoke/MethodHandle" ∧ yX9_tell.cls ≠ "java/lang/invoke/VarHandle" ∧ (parseMethodDescriptor yX9_tell.desc).map (fun d => d.parameters.length) = some 2 := by decide +kernel
theorem sg_X9_forget : yX9_forget.cls = RX9 ∧ yX9_forget.cls ≠ "java/lang/invoke/MethodHandle" ∧ yX9_forget.cls ≠ "java/lang/invoke/VarHandle" ∧ (parseMethodDescriptor yX9_forget.desc).map (fun d => d.parameters.length) = some 0 := by decide +kernel
theorem sg_X9_guess : yX9_guess.cls = RX9 ∧ yX9_guess.cls ≠ "java/lang/invoke/MethodHandle" ∧ yX9_guess.cls ≠ "java/lang/invoke/VarHandle" ∧ (parseMethodDescriptor yX9_guess.desc).map (fun d => d.parameters.length) = some 1 := by decide +kernel
theorem sg_X9_listen : yX9_listen.cls = RX9 ∧ yX9_listen.cls ≠ "java/lang/invoke/MethodHandle" ∧ yX9_listen.cls ≠ "java/lang/invoke/VarHandle" ∧ (parseMethodDescriptor yX9_listen.desc).map (fun d => d.parameters.length) = some 1 := by decide +kernel
theorem sg_X9_draughts : yX9_draughts.cls = RX9 ∧ yX9_draughts.cls ≠ "java/lang/invoke/MethodHandle" ∧ yX9_draughts.cls ≠ "java/lang/invoke/VarHandle" ∧ (parseMethodDescriptor yX9_draughts.desc).map (fun d => d.parameters.length) = some 3 := by decide +kernel
theorem sg_X9_image : yX9_image.cls = RX9 ∧ yX9_image.cls ≠ "java/lang/invoke/MethodHandle" ∧ yX9_image.cls ≠ "java/lang/invoke/VarHandle" ∧ (parseMethodDescriptor yX9_image.desc).map (fun d => d.parameters.length) = some 0 := by decide +kernel
theorem sg_X9_restore : yX9_restore.cls = RX9 ∧ yX9_restore.cls ≠ "java/lang/invoke/MethodHandle" ∧ yX9_restore.cls ≠ "java/lang/invoke/VarHandle" ∧ (parseMethodDescriptor yX9_restore.desc).map (fun d => d.parameters.length) = some 0 := by decide +kernel
theorem sg_X9_countOf : yX9_countOf.cls = RX9 ∧ yX9_countOf.cls ≠ "java/lang/invoke/MethodHandle" ∧ yX9_countOf.cls ≠ "java/lang/invoke/VarHandle" ∧ (parseMethodDescriptor yX9_countOf.desc).map (fun d => d.parameters.length) = some 1 := by decide +kernel
theorem sg_X9_count : yX9_count.cls = RX9 ∧ yX9_count.cls ≠ "java/lang/invoke/MethodHandle" ∧ yX9_count.cls ≠ "java/lang/invoke/VarHandle" ∧ (parseMethodDescriptor yX9_count.desc).map (fun d => d.parameters.length) = some 1 := by decide +kernel
-- QuartetNods.letter
set_option maxRecDepth 20000 in
theorem c_X9_letter (l : Launch) (D : va_G) (cI : ClassId) (q : Nat → Nat) (f : Nat → Int) (r : Nat → Nat → Int) (σ : Sg) (B : Nat) (a : Int) (hσ : sOK σ B) (hB : B ≤ 100) (h : CRel f r σ) (ha : -2147483648 ≤ a ∧ a < 2147483648) : Cn l D cI yX9_letter cX9_letter 2 (some .int) 1 0 0 [.ref (q 0), .int (zI a)] (cW cI q f r) (qC cI q (o_letter σ a)) := by
  refine Cn.of [(0, .ref (q 0)), (1, .int (zI a))] (by decide +kernel) (Nat.le_of_ble_eq_true rfl) rfl (fun X hX hR => ?_)
  have hsl := hσ.1
  have hg6 := hσ.2.1
  have hP := hσ.2.2.1
  have hE := hσ.2.2.2.1
  have hpb6 := hP.1
  have hpL9 := hP.2.1
  have hn4 := hE.1
  have hT6 := hE.2.2.2.2.1
  have hep := hE.2.2.2.2.2.2.2
  have hbk := hE.2.2.2.2.2.2.1
  have hs1 := hσ.2.2.2.2.2.1
  have hs2 := hσ.2.2.2.2.2.2.1
  have hs3 := hσ.2.2.2.2.2.2.2.1
  have hbd := hσ.2.2.2.2.2.2.2.2.1
  have hρ : RuOK (sr σ) := rho_OK hP hE
  have hc : cR f r (sr σ) := cR_of h.2.1 h.2.2.1
  have ht : tk (sr σ) (st σ) := rho_tk hE
  have hrb : rb (sr σ) = pb (sP σ) := rfl
  have hrn : rn (sr σ) = en (sE σ) := rfl
  have hrl : rl (sr σ) = pL (sP σ) := rfl
  refine zg_iload_n hX 1 rfl dX9_letter_0 rfl 1 rfl ?_
  refine zg_iconst hX dX9_letter_1 2 rfl ?_
  refine zg_icmp_lt hX (by omega) (by omega) dX9_letter_2 11 (by decide) 5 rfl (fun h2 => ?_) (fun h2 => ?_)
  · refine zg_bipush hX dX9_letter_11 13 rfl (by decide) ?_
    exact zg_iret hX hR (Nat.le_refl _) (Nat.le_refl _) rfl dX9_letter_13 (qC_ret (by unfold o_letter; rw [if_pos (by omega)]) h)
  · refine zg_iload_n hX 1 rfl dX9_letter_5 rfl 6 rfl ?_
    refine zg_bipush hX dX9_letter_6 8 rfl (by decide) ?_
    refine zg_icmp_le hX (by omega) (by omega) dX9_letter_8 14 (by decide) 11 rfl (fun h8 => ?_) (fun h8 => ?_)
    · refine zg_aload_n hX 0 rfl dX9_letter_14 rfl 15 rfl ?_
      refine cg_0_0 hX mw_249 dX9_letter_15 18 rfl ?_
      refine cg_1_1 hX mw_33 (sl σ : Int) h.1.1 dX9_letter_18 21 rfl ?_
      refine zg_bipush hX dX9_letter_21 23 rfl (by decide) ?_
      refine zg_icmp_lt hX (by omega) (by omega) dX9_letter_23 29 (by decide) 26 rfl (fun h23 => ?_) (fun h23 => ?_)
      · refine zg_aload_n hX 0 rfl dX9_letter_29 rfl 30 rfl ?_
        refine cg_0_0 hX mw_249 dX9_letter_30 33 rfl ?_
        refine zg_iload_n hX 1 rfl dX9_letter_33 rfl 34 rfl ?_
        refine zg_callV (As := [.int (zI a)]) (rest := []) (k0 := 1) (ci := 6) hX (c_X7_write l D cI q f r (sl σ) a h.1.1 (by omega)) mw_293 mw_294 mw_295 mw_2 mw_296 sg_X7_write (by decide) (by decide) (Nat.le_refl _) (Nat.le_refl _) rfl rfl rfl (Nat.le_of_ble_eq_true rfl) dX9_letter_34 37 rfl (fun v34 W34 hp34 => ?_)
        obtain ⟨rfl, rfl⟩ := hp34
        show G X 2 0 0 (cW cI q (pu f 0 ((sl σ : Int) + 1)) (pu r 0 (pu (r 0) (sl σ) a))) [(0, .ref (q 0)), (1, .int (zI a))] 37 []
        refine zg_aload_n hX 0 rfl dX9_letter_37 rfl 38 rfl ?_
        refine cg_0_0 hX mw_249 dX9_letter_38 41 rfl ?_
        refine cg_1_1 hX mw_33 ((sl σ : Int) + 1) rfl dX9_letter_41 44 rfl ?_
        exact zg_iret hX hR (Nat.le_refl _) (Nat.le_refl _) rfl dX9_letter_44 (qC_ret (by unfold o_letter; rw [if_neg (by omega), if_neg (by omega)]) (letter_rel h (by omega)))
      · refine zg_bipush hX dX9_letter_26 28 rfl (by decide) ?_
        exact zg_iret hX hR (Nat.le_refl _) (Nat.le_refl _) rfl dX9_letter_28 (qC_ret (by unfold o_letter; rw [if_neg (by omega), if_pos (by omega)]) h)
    · refine zg_bipush hX dX9_letter_11 13 rfl (by decide) ?_
      exact zg_iret hX hR (Nat.le_refl _) (Nat.le_refl _) rfl dX9_letter_13 (qC_ret (by unfold o_letter; rw [if_pos (by omega)]) h)
-- QuartetNods.blank
set_option maxRecDepth 20000 in
theorem c_X9_blank (l : Launch) (D : va_G) (cI : ClassId) (q : Nat → Nat) (f : Nat → Int) (r : Nat → Nat → Int) (σ : Sg) (B : Nat)  (hσ : sOK σ B) (hB : B ≤ 100) (h : CRel f r σ) : Cn l D cI yX9_blank cX9_blank 2 (some .int) 0 0 0 [.ref (q 0)] (cW cI q f r) (qC cI q (o_blank σ)) := by
  refine Cn.of [(0, .ref (q 0))] (by decide +kernel) (Nat.le_of_ble_eq_true rfl) rfl (fun X hX hR => ?_)
  have hsl := hσ.1
  have hg6 := hσ.2.1
  have hP := hσ.2.2.1
  have hE := hσ.2.2.2.1
  have hpb6 := hP.1
  have hpL9 := hP.2.1
  have hn4 := hE.1
  have hT6 := hE.2.2.2.2.1
  have hep := hE.2.2.2.2.2.2.2
  have hbk := hE.2.2.2.2.2.2.1
  have hs1 := hσ.2.2.2.2.2.1
  have hs2 := hσ.2.2.2.2.2.2.1
  have hs3 := hσ.2.2.2.2.2.2.2.1
  have hbd := hσ.2.2.2.2.2.2.2.2.1
  have hρ : RuOK (sr σ) := rho_OK hP hE
  have hc : cR f r (sr σ) := cR_of h.2.1 h.2.2.1
  have ht : tk (sr σ) (st σ) := rho_tk hE
  have hrb : rb (sr σ) = pb (sP σ) := rfl
  have hrn : rn (sr σ) = en (sE σ) := rfl
  have hrl : rl (sr σ) = pL (sP σ) := rfl
  refine zg_aload_n hX 0 rfl dX9_blank_0 rfl 1 rfl ?_
  refine cg_0_0 hX mw_249 dX9_blank_1 4 rfl ?_
  refine cg_1_1 hX mw_33 (sl σ : Int) h.1.1 dX9_blank_4 7 rfl ?_
  refine zg_istore_n hX [(1, .int (zI (sl σ : Int))), (0, .ref (q 0))] dX9_blank_7 rfl (by decide) rfl 8 rfl ?_
  refine zg_aload_n hX 1 rfl dX9_blank_8 rfl 9 rfl ?_
  refine cg_0_0 hX mw_249 dX9_blank_9 12 rfl ?_
  refine zg_iconst hX dX9_blank_12 13 rfl ?_
  refine cp_1_1 hX mw_33 dX9_blank_13 16 rfl ?_
  refine zg_iload_n hX 0 rfl dX9_blank_16 rfl 17 rfl ?_
  exact zg_iret hX hR (Nat.le_refl _) (Nat.le_refl _) rfl dX9_blank_17 (qC_ret rfl ⟨⟨rfl, fun k hk => absurd hk (Nat.not_lt_zero k)⟩, h.2⟩)
-- QuartetNods.fault
set_option maxRecDepth 20000 in
theorem c_X9_fault (l : Launch) (D : va_G) (cI : ClassId) (q : Nat → Nat) (f : Nat → Int) (r : Nat → Nat → Int) (σ : Sg) (B : Nat)  (hσ : sOK σ B) (hB : B ≤ 100) (h : CRel f r σ) : Cn l D cI yX9_fault cX9_fault 1 (some .int) 3 0 0 [.ref (q 0)] (cW cI q f r) (qC cI q (o_fault σ)) := by
  refine Cn.of [(0, .ref (q 0))] (by decide +kernel) (Nat.le_of_ble_eq_true rfl) rfl (fun X hX hR => ?_)
  have hsl := hσ.1
  have hg6 := hσ.2.1
  have hP := hσ.2.2.1
  have hE := hσ.2.2.2.1
  have hpb6 := hP.1
  have hpL9 := hP.2.1
  have hn4 := hE.1
  have hT6 := hE.2.2.2.2.1
  have hep := hE.2.2.2.2.2.2.2
  have hbk := hE.2.2.2.2.2.2.1
  have hs1 := hσ.2.2.2.2.2.1
  have hs2 := hσ.2.2.2.2.2.2.1
  have hs3 := hσ.2.2.2.2.2.2.2.1
  have hbd := hσ.2.2.2.2.2.2.2.2.1
  have hρ : RuOK (sr σ) := rho_OK hP hE
  have hc : cR f r (sr σ) := cR_of h.2.1 h.2.2.1
  have ht : tk (sr σ) (st σ) := rho_tk hE
  have hrb : rb (sr σ) = pb (sP σ) := rfl
  have hrn : rn (sr σ) = en (sE σ) := rfl
  have hrl : rl (sr σ) = pL (sP σ) := rfl
  refine zg_aload_n hX 0 rfl dX9_fault_0 rfl 1 rfl ?_
  refine cg_0_0 hX mw_249 dX9_fault_1 4 rfl ?_
  refine zg_callVi (As := []) (rest := []) (k0 := 1) (ci := 6) hX (c_X7_firstFault l D cI q f r (sl σ) (sg σ) h.1.1 hsl h.1.2 hg6) mw_305 mw_306 mw_307 mw_2 mw_308 sg_X7_firstFault (by decide) (by decide) (Nat.le_refl _) (Nat.le_refl _) rfl rfl rfl (Nat.le_of_ble_eq_true rfl) dX9_fault_4 7 rfl ?_
  exact zg_iret hX hR (Nat.le_refl _) (Nat.le_refl _) rfl dX9_fault_7 (qC_ret rfl h)
-- QuartetNods.piece
set_option maxRecDepth 20000 in
set_option maxHeartbeats 400000 in
theorem c_X9_piece (l : Launch) (D : va_G) (cI : ClassId) (q : Nat → Nat) (f : Nat → Int) (r : Nat → Nat → Int) (σ : Sg) (B : Nat)  (hσ : sOK σ B) (hB : B ≤ 100) (h : CRel f r σ) : Cn l D cI yX9_piece cX9_piece 1 (some .int) 4 0 0 [.ref (q 0)] (cW cI q f r) (qC cI q (o_piece σ)) := by
  refine Cn.of [(0, .ref (q 0))] (by decide +kernel) (Nat.le_of_ble_eq_true rfl) rfl (fun X hX hR => ?_)
  have hsl := hσ.1
  have hg6 := hσ.2.1
  have hP := hσ.2.2.1
  have hE := hσ.2.2.2.1
  have hpb6 := hP.1
  have hpL9 := hP.2.1
  have hn4 := hE.1
  have hT6 := hE.2.2.2.2.1
  have hep := hE.2.2.2.2.2.2.2
  have hbk := hE.2.2.2.2.2.2.1
  have hs1 := hσ.2.2.2.2.2.1
  have hs2 := hσ.2.2.2.2.2.2.1
  have hs3 := hσ.2.2.2.2.2.2.2.1
  have hbd := hσ.2.2.2.2.2.2.2.2.1
  have hρ : RuOK (sr σ) := rho_OK hP hE
  have hc : cR f r (sr σ) := cR_of h.2.1 h.2.2.1
  have ht : tk (sr σ) (st σ) := rho_tk hE
  have hrb : rb (sr σ) = pb (sP σ) := rfl
  have hrn : rn (sr σ) = en (sE σ) := rfl
  have hrl : rl (sr σ) = pL (sP σ) := rfl
  refine zg_aload_n hX 0 rfl dX9_piece_0 rfl 1 rfl ?_
  refine cg_0_0 hX mw_249 dX9_piece_1 4 rfl ?_
  refine zg_callVi (As := []) (rest := []) (k0 := 1) (ci := 6) hX (c_X7_isWhole l D cI q f r (sl σ) (sg σ) h.1.1 hsl h.1.2 hg6) mw_322 mw_323 mw_324 mw_2 mw_325 sg_X7_isWhole (by decide) (by decide) (Nat.le_refl _) (Nat.le_refl _) rfl rfl rfl (Nat.le_of_ble_eq_true rfl) dX9_piece_4 7 rfl ?_
  refine zg_ifb_ne hX dX9_piece_7 13 (by decide) 10 rfl (fun h7 => ?_) (fun h7 => ?_)
  · have hw := of_decide_eq_true (show decide (2 ≤ sl σ ∧ sg σ (sl σ - 2) = 59 ∧ ft (sg σ) 0 (sl σ) = sl σ) = true from h7)
    have hwf := whl_len (g := sg σ) hw.1 hw.2.1 hw.2.2
    have h7w : whl σ = true := h7
    have w1 := hwf.1
    have w3 := hwf.2.2.1
    refine zg_aload_n hX 0 rfl dX9_piece_13 rfl 14 rfl ?_
    refine cg_0_1 hX mw_250 dX9_piece_14 17 rfl ?_
    refine zg_aload_n hX 0 rfl dX9_piece_17 rfl 18 rfl ?_
    refine cg_0_0 hX mw_249 dX9_piece_18 21 rfl ?_
    refine zg_callV (As := [.ref (q 1)]) (rest := []) (k0 := 3) (ci := 7) hX (c_X8_read l D cI q f r (sl σ) (sg σ) h.1.1 hsl h.1.2 hg6 (by omega)) mw_327 mw_328 mw_329 mw_3 mw_330 sg_X8_read (by decide) (by decide) (Nat.le_refl _) (Nat.le_refl _) rfl rfl rfl (Nat.le_of_ble_eq_true rfl) dX9_piece_21 24 rfl (fun v21 W21 hp21 => ?_)
    obtain ⟨R21, rfl, rfl, hR21, hso, hpa⟩ := hp21
    show G X 1 0 0 (cW cI q (pu (pu f 1 ((min 6 (sl σ / 3) : Nat) : Int)) 2 ((sg σ (3 * (min 6 (sl σ / 3))) : Int) - 48)) R21) [(0, .ref (q 0))] 24 []
    refine zg_aload_n hX 0 rfl dX9_piece_24 rfl 25 rfl ?_
    refine cg_0_0 hX mw_249 dX9_piece_25 28 rfl ?_
    refine zg_iconst hX dX9_piece_28 29 rfl ?_
    refine cp_1_1 hX mw_33 dX9_piece_29 32 rfl ?_
    refine zg_aload_n hX 0 rfl dX9_piece_32 rfl 33 rfl ?_
    refine cg_0_2 hX mw_251 dX9_piece_33 36 rfl ?_
    refine zg_callV (As := []) (rest := []) (k0 := 6) (ci := 3) hX (c_X3_beginAnew l D cI q (pu (pu (pu f 1 ((min 6 (sl σ / 3) : Nat) : Int)) 2 ((sg σ (3 * (min 6 (sl σ / 3))) : Int) - 48)) 0 0) R21) mw_338 mw_339 mw_340 mw_4 mw_341 sg_X3_beginAnew (by decide) (by decide) (Nat.le_refl _) (Nat.le_refl _) rfl rfl rfl (Nat.le_of_ble_eq_true rfl) dX9_piece_36 39 rfl (fun v36 W36 hp36 => ?_)
    obtain ⟨rfl, rfl⟩ := hp36
    show G X 1 0 0 (cW cI q (pu (pu (pu (pu (pu (pu (pu (pu (pu (pu f 1 ((min 6 (sl σ / 3) : Nat) : Int)) 2 ((sg σ (3 * (min 6 (sl σ / 3))) : Int) - 48)) 0 0) 3 0) 4 0) 5 0) 6 0) 7 0) 8 0) 9 0) R21) [(0, .ref (q 0))] 39 []
    refine zg_aload_n hX 0 rfl dX9_piece_39 rfl 40 rfl ?_
    refine zg_iconst hX dX9_piece_40 41 rfl ?_
    refine cp_0_9 hX mw_258 (by decide) (by decide) dX9_piece_41 44 rfl ?_
    refine zg_aload_n hX 0 rfl dX9_piece_44 rfl 45 rfl ?_
    refine zg_dup hX rfl dX9_piece_45 46 rfl ?_
    refine cg_0_10 hX mw_259 (s1 σ : Int) h.2.2.2.2.2.1 dX9_piece_46 49 rfl ?_
    refine zg_iconst hX dX9_piece_49 50 rfl ?_
    refine zg_iadd hX dX9_piece_50 51 rfl ?_
    refine cp_0_10 hX mw_259 dX9_piece_51 54 rfl ?_
    refine zg_aload_n hX 0 rfl dX9_piece_54 rfl 55 rfl ?_
    refine cg_0_1 hX mw_250 dX9_piece_55 58 rfl ?_
    refine cg_3_2 hX mw_60 ((min 6 (sl σ / 3) : Nat) : Int) rfl dX9_piece_58 61 rfl ?_
    exact zg_iret hX hR (Nat.le_refl _) (Nat.le_refl _) rfl dX9_piece_61 (qC_ret (by unfold o_piece; rw [if_pos h7w]) (piece_rel h hR21 hso hpa hwf))
  · have h7w : whl σ = false := h7
    refine zg_bipush hX dX9_piece_10 12 rfl (by decide) ?_
    exact zg_iret hX hR (Nat.le_refl _) (Nat.le_refl _) rfl dX9_piece_12 (qC_ret (by unfold o_piece; rw [if_neg (by rw [h7w]; decide)]) h)
-- QuartetNods.ofBar
set_option maxRecDepth 20000 in
theorem c_X9_ofBar (l : Launch) (D : va_G) (cI : ClassId) (q : Nat → Nat) (f : Nat → Int) (r : Nat → Nat → Int) (σ : Sg) (B : Nat) (b : Nat) (w : Int) (hσ : sOK σ B) (hB : B ≤ 100) (h : CRel f r σ) (hbb : b < pb (sP σ)) (hw : 0 ≤ w ∧ w ≤ 3) : Cn l D cI yX9_ofBar cX9_ofBar 4 (some .int) 1 0 0 [.ref (q 0), .int (zI (b : Int)), .int (zI w), .int (zI (n6 (lsv (sr σ) (st σ) (rb (sr σ)))))] (cW cI q f r) (qC cI q ((σ, tellB σ b w))) := by
  refine Cn.of [(0, .ref (q 0)), (1, .int (zI (b : Int))), (2, .int (zI w)), (3, .int (zI (n6 (lsv (sr σ) (st σ) (rb (sr σ))))))] (by decide +kernel) (Nat.le_of_ble_eq_true rfl) rfl (fun X hX hR => ?_)
  have hsl := hσ.1
  have hg6 := hσ.2.1
  have hP := hσ.2.2.1
  have hE := hσ.2.2.2.1
  have hpb6 := hP.1
  have hpL9 := hP.2.1
  have hn4 := hE.1
  have hT6 := hE.2.2.2.2.1
  have hep := hE.2.2.2.2.2.2.2
  have hbk := hE.2.2.2.2.2.2.1
  have hs1 := hσ.2.2.2.2.2.1
  have hs2 := hσ.2.2.2.2.2.2.1
  have hs3 := hσ.2.2.2.2.2.2.2.1
  have hbd := hσ.2.2.2.2.2.2.2.2.1
  have hρ : RuOK (sr σ) := rho_OK hP hE
  have hc : cR f r (sr σ) := cR_of h.2.1 h.2.2.1
  have ht : tk (sr σ) (st σ) := rho_tk hE
  have hrb : rb (sr σ) = pb (sP σ) := rfl
  have hrn : rn (sr σ) = en (sE σ) := rfl
  have hrl : rl (sr σ) = pL (sP σ) := rfl
  refine zg_iload_n hX 2 rfl dX9_ofBar_0 rfl 1 rfl ?_
  rcases (show w = 0 ∨ w = 1 ∨ w = 2 ∨ (w < 0 ∨ 2 < w) from by omega) with hs1 | hs1 | hs1 | hs1
  · refine zg_tableIn hX (by omega) dX9_ofBar_1 (by omega) (by omega) 0 (by omega) rfl 28 (by decide) ?_
    refine zg_aload_n hX 0 rfl dX9_ofBar_28 rfl 29 rfl ?_
    refine cg_0_1 hX mw_250 dX9_ofBar_29 32 rfl ?_
    refine cg_3_0 hX mw_49 dX9_ofBar_32 35 rfl ?_
    refine zg_iload_n hX 1 rfl dX9_ofBar_35 rfl 36 rfl ?_
    refine ca_4 hX b (ps (sP σ) b : Int) (by omega) (by omega) (h.2.1.2.2.1 b hbb) dX9_ofBar_36 37 rfl ?_
    exact zg_iret hX hR (Nat.le_refl _) (Nat.le_refl _) rfl dX9_ofBar_37 (qC_ret (by rw [hs1]; rfl) h)
  · refine zg_tableIn hX (by omega) dX9_ofBar_1 (by omega) (by omega) 1 (by omega) rfl 38 (by decide) ?_
    refine zg_aload_n hX 0 rfl dX9_ofBar_38 rfl 39 rfl ?_
    refine cg_0_1 hX mw_250 dX9_ofBar_39 42 rfl ?_
    refine cg_3_1 hX mw_55 dX9_ofBar_42 45 rfl ?_
    refine zg_iload_n hX 1 rfl dX9_ofBar_45 rfl 46 rfl ?_
    refine ca_5 hX b (pp (sP σ) b : Int) (by omega) (by omega) (h.2.1.2.2.2 b hbb) dX9_ofBar_46 47 rfl ?_
    exact zg_iret hX hR (Nat.le_refl _) (Nat.le_refl _) rfl dX9_ofBar_47 (qC_ret (by rw [hs1]; rfl) h)
  · refine zg_tableIn hX (by omega) dX9_ofBar_1 (by omega) (by omega) 2 (by omega) rfl 48 (by decide) ?_
    refine zg_iload_n hX 3 rfl dX9_ofBar_48 rfl 49 rfl ?_
    refine zg_iload_n hX 1 rfl dX9_ofBar_49 rfl 50 rfl ?_
    refine zg_callSi (As := [.int (zI (n6 (lsv (sr σ) (st σ) (rb (sr σ))))), .int (zI (b : Int))]) (rest := []) hX (c_X5_get l D cI _ (lsv (sr σ) (st σ) (rb (sr σ))) b (lsv_16 _ hρ _) (by omega)) mw_393 mw_363 mw_12 mw_364 sg_X5_get.2 (by decide) (by decide) (Nat.le_refl _) (Nat.le_refl _) rfl (Nat.le_of_ble_eq_true rfl) dX9_ofBar_50 53 rfl ?_
    exact zg_iret hX hR (Nat.le_refl _) (Nat.le_refl _) rfl dX9_ofBar_53 (qC_ret (by rw [hs1, lsv_at (by omega)]; rfl) h)
  · refine zg_tableOut hX (by omega) dX9_ofBar_1 (by omega) 54 (by decide) ?_
    refine zg_aload_n hX 0 rfl dX9_ofBar_54 rfl 55 rfl ?_
    refine cg_0_2 hX mw_251 dX9_ofBar_55 58 rfl ?_
    refine zg_iload_n hX 1 rfl dX9_ofBar_58 rfl 59 rfl ?_
    refine zg_callVi (As := [.int (zI (b : Int))]) (rest := []) (k0 := 6) (ci := 3) hX (c_X3_lastToldOf l D cI q f r (sE σ) b h.2.2.1 hT6 (by omega) (fun k hk => by have := hbk k hk; omega)) mw_394 mw_395 mw_396 mw_4 mw_397 sg_X3_lastToldOf (by decide) (by decide) (Nat.le_refl _) (Nat.le_refl _) rfl rfl rfl (Nat.le_of_ble_eq_true rfl) dX9_ofBar_59 62 rfl ?_
    exact zg_iret hX hR (Nat.le_refl _) (Nat.le_refl _) rfl dX9_ofBar_62 (qC_ret (by rw [show w = 3 by omega]; rfl) h)
-- QuartetNods.bar
set_option maxRecDepth 20000 in
theorem c_X9_bar (l : Launch) (D : va_G) (cI : ClassId) (q : Nat → Nat) (f : Nat → Int) (r : Nat → Nat → Int) (σ : Sg) (B : Nat) (a b : Int) (hσ : sOK σ B) (hB : B ≤ 100) (h : CRel f r σ) (ha : -2147483648 ≤ a ∧ a < 2147483648) (hb : -2147483648 ≤ b ∧ b < 2147483648) : Cn l D cI yX9_bar cX9_bar 3 (some .int) 4 0 0 [.ref (q 0), .int (zI a), .int (zI b)] (cW cI q f r) (qC cI q (o_bar σ a b)) := by
  refine Cn.of [(0, .ref (q 0)), (1, .int (zI a)), (2, .int (zI b))] (by decide +kernel) (Nat.le_of_ble_eq_true rfl) rfl (fun X hX hR => ?_)
  have hsl := hσ.1
  have hg6 := hσ.2.1
  have hP := hσ.2.2.1
  have hE := hσ.2.2.2.1
  have hpb6 := hP.1
  have hpL9 := hP.2.1
  have hn4 := hE.1
  have hT6 := hE.2.2.2.2.1
  have hep := hE.2.2.2.2.2.2.2
  have hbk := hE.2.2.2.2.2.2.1
  have hs1 := hσ.2.2.2.2.2.1
  have hs2 := hσ.2.2.2.2.2.2.1
  have hs3 := hσ.2.2.2.2.2.2.2.1
  have hbd := hσ.2.2.2.2.2.2.2.2.1
  have hρ : RuOK (sr σ) := rho_OK hP hE
  have hc : cR f r (sr σ) := cR_of h.2.1 h.2.2.1
  have ht : tk (sr σ) (st σ) := rho_tk hE
  have hrb : rb (sr σ) = pb (sP σ) := rfl
  have hrn : rn (sr σ) = en (sE σ) := rfl
  have hrl : rl (sr σ) = pL (sP σ) := rfl
  refine zg_aload_n hX 0 rfl dX9_bar_0 rfl 1 rfl ?_
  refine cg_0_1 hX mw_250 dX9_bar_1 4 rfl ?_
  refine zg_iload_n hX 1 rfl dX9_bar_4 rfl 5 rfl ?_
  refine zg_callVi (As := [.int (zI a)]) (rest := []) (k0 := 3) (ci := 7) hX (c_X8_has l D cI q f r (pb (sP σ)) a h.2.1.1 (by omega) ha) mw_346 mw_347 mw_348 mw_3 mw_349 sg_X8_has (by decide) (by decide) (Nat.le_refl _) (Nat.le_refl _) rfl rfl rfl (Nat.le_of_ble_eq_true rfl) dX9_bar_5 8 rfl ?_
  refine zg_ifb_ne hX dX9_bar_8 14 (by decide) 11 rfl (fun h8 => ?_) (fun h8 => ?_)
  · have h8a := of_decide_eq_true h8
    refine zg_iload_n hX 2 rfl dX9_bar_14 rfl 15 rfl ?_
    refine zg_if_lt hX (by omega) dX9_bar_15 23 (by decide) 18 rfl (fun h15 => ?_) (fun h15 => ?_)
    · refine zg_bipush hX dX9_bar_23 25 rfl (by decide) ?_
      exact zg_iret hX hR (Nat.le_refl _) (Nat.le_refl _) rfl dX9_bar_25 (qC_ret (by unfold o_bar; rw [if_pos h8a, if_neg (by omega)]) h)
    · refine zg_iload_n hX 2 rfl dX9_bar_18 rfl 19 rfl ?_
      refine zg_iconst hX dX9_bar_19 20 rfl ?_
      refine zg_icmp_le hX (by omega) (by omega) dX9_bar_20 26 (by decide) 23 rfl (fun h20 => ?_) (fun h20 => ?_)
      · have el26_1 : (a : Int) = (a.toNat : Int) := by omega
        refine zg_to (lv2 := [(0, .ref (q 0)), (1, .int (zI (a.toNat : Int))), (2, .int (zI b))]) (ws2 := (cW cI q f r)) (st2 := []) ?_ rfl (by rw [← el26_1]) rfl
        refine zg_aload_n hX 0 rfl dX9_bar_26 rfl 27 rfl ?_
        refine zg_iload_n hX 1 rfl dX9_bar_27 rfl 28 rfl ?_
        refine zg_iload_n hX 2 rfl dX9_bar_28 rfl 29 rfl ?_
        refine zg_aload_n hX 0 rfl dX9_bar_29 rfl 30 rfl ?_
        refine cg_0_4 hX mw_253 dX9_bar_30 33 rfl ?_
        refine zg_aload_n hX 0 rfl dX9_bar_33 rfl 34 rfl ?_
        refine cg_0_2 hX mw_251 dX9_bar_34 37 rfl ?_
        refine cg_6_7 hX mw_100 (n6 (st σ)) h.2.2.1.2.2.1 dX9_bar_37 40 rfl ?_
        refine zg_callVi (As := [.int (zI (n6 (st σ)))]) (rest := [.int (zI b), .int (zI (a.toNat : Int)), .ref (q 0)]) (k0 := 18) (ci := 2) hX (c_X2_lossesFrom l D cI q f r (sr σ) (st σ) hρ hc ht) mw_350 mw_351 mw_352 mw_5 mw_353 sg_X2_lossesFrom (by decide) (by decide) (Nat.le_refl _) (Nat.le_refl _) rfl rfl rfl (Nat.le_of_ble_eq_true rfl) dX9_bar_40 43 rfl ?_
        refine zg_callV (As := [.int (zI (a.toNat : Int)), .int (zI b), .int (zI (n6 (lsv (sr σ) (st σ) (rb (sr σ)))))]) (rest := []) (k0 := 0) (ci := 8) hX (c_X9_ofBar l D cI q f r σ B a.toNat b hσ hB h (by omega) (by omega)) mw_389 mw_391 mw_s1 mw_1 mw_392 sg_X9_ofBar (by decide) (by decide) (Nat.le_refl _) (Nat.le_refl _) rfl rfl rfl (Nat.le_of_ble_eq_true rfl) dX9_bar_43 46 rfl (fun v43 W43 hp43 => ?_)
        obtain ⟨F43, R43, rfl, rfl, hr43⟩ := hp43
        show G X 3 0 0 (cW cI q F43 R43) [(0, .ref (q 0)), (1, .int (zI (a.toNat : Int))), (2, .int (zI b))] 46 [.int (zI (tellB σ a.toNat b))]
        exact zg_iret hX hR (Nat.le_refl _) (Nat.le_refl _) rfl dX9_bar_46 (qC_ret (by unfold o_bar; rw [if_pos h8a, if_pos (by omega)]) hr43)
      · refine zg_bipush hX dX9_bar_23 25 rfl (by decide) ?_
        exact zg_iret hX hR (Nat.le_refl _) (Nat.le_refl _) rfl dX9_bar_25 (qC_ret (by unfold o_bar; rw [if_pos h8a, if_neg (by omega)]) h)
  · have h8a := of_decide_eq_false h8
    refine zg_bipush hX dX9_bar_11 13 rfl (by decide) ?_
    exact zg_iret hX hR (Nat.le_refl _) (Nat.le_refl _) rfl dX9_bar_13 (qC_ret (by unfold o_bar; rw [if_neg h8a]) h)
-- QuartetNods.player
set_option maxRecDepth 20000 in
theorem c_X9_player (l : Launch) (D : va_G) (cI : ClassId) (q : Nat → Nat) (f : Nat → Int) (r : Nat → Nat → Int) (σ : Sg) (B : Nat) (a b : Int) (hσ : sOK σ B) (hB : B ≤ 100) (h : CRel f r σ) (ha : -2147483648 ≤ a ∧ a < 2147483648) (hb : -2147483648 ≤ b ∧ b < 2147483648) : Cn l D cI yX9_player cX9_player 3 (some .int) 2 0 0 [.ref (q 0), .int (zI a), .int (zI b)] (cW cI q f r) (qC cI q (o_player σ a b)) := by
  refine Cn.of [(0, .ref (q 0)), (1, .int (zI a)), (2, .int (zI b))] (by decide +kernel) (Nat.le_of_ble_eq_true rfl) rfl (fun X hX hR => ?_)
  have hsl := hσ.1
  have hg6 := hσ.2.1
  have hP := hσ.2.2.1
  have hE := hσ.2.2.2.1
  have hpb6 := hP.1
  have hpL9 := hP.2.1
  have hn4 := hE.1
  have hT6 := hE.2.2.2.2.1
  have hep := hE.2.2.2.2.2.2.2
  have hbk := hE.2.2.2.2.2.2.1
  have hs1 := hσ.2.2.2.2.2.1
  have hs2 := hσ.2.2.2.2.2.2.1
  have hs3 := hσ.2.2.2.2.2.2.2.1
  have hbd := hσ.2.2.2.2.2.2.2.2.1
  have hρ : RuOK (sr σ) := rho_OK hP hE
  have hc : cR f r (sr σ) := cR_of h.2.1 h.2.2.1
  have ht : tk (sr σ) (st σ) := rho_tk hE
  have hrb : rb (sr σ) = pb (sP σ) := rfl
  have hrn : rn (sr σ) = en (sE σ) := rfl
  have hrl : rl (sr σ) = pL (sP σ) := rfl
  refine zg_iload_n hX 1 rfl dX9_player_0 rfl 1 rfl ?_
  refine zg_callSi (As := [.int (zI a)]) (rest := []) hX (c_X9_isKind l D cI _ a ha) mw_402 mw_403 mw_1 mw_404 sg_X9_isKind.2 (by decide) (by decide) (Nat.le_refl _) (Nat.le_refl _) rfl (Nat.le_of_ble_eq_true rfl) dX9_player_1 4 rfl ?_
  refine zg_ifb_eq hX dX9_player_4 14 (by decide) 7 rfl (fun h4 => ?_) (fun h4 => ?_)
  · have h4a := of_decide_eq_false h4
    refine zg_bipush hX dX9_player_14 16 rfl (by decide) ?_
    exact zg_iret hX hR (Nat.le_refl _) (Nat.le_refl _) rfl dX9_player_16 (qC_ret (by unfold o_player; rw [if_pos (by omega)]) h)
  · have h4a := of_decide_eq_true h4
    refine zg_iload_n hX 2 rfl dX9_player_7 rfl 8 rfl ?_
    refine zg_callSi (As := [.int (zI b)]) (rest := []) hX (c_X9_isTiredness l D cI _ b hb) mw_405 mw_406 mw_1 mw_407 sg_X9_isTiredness.2 (by decide) (by decide) (Nat.le_refl _) (Nat.le_refl _) rfl (Nat.le_of_ble_eq_true rfl) dX9_player_8 11 rfl ?_
    refine zg_ifb_ne hX dX9_player_11 17 (by decide) 14 rfl (fun h11 => ?_) (fun h11 => ?_)
    · have h11a := of_decide_eq_true h11
      refine zg_aload_n hX 0 rfl dX9_player_17 rfl 18 rfl ?_
      refine cg_0_1 hX mw_250 dX9_player_18 21 rfl ?_
      refine cg_3_2 hX mw_60 (pb (sP σ) : Int) h.2.1.1 dX9_player_21 24 rfl ?_
      refine zg_if_ne hX (by omega) dX9_player_24 30 (by decide) 27 rfl (fun h24 => ?_) (fun h24 => ?_)
      · refine zg_aload_n hX 0 rfl dX9_player_30 rfl 31 rfl ?_
        refine cg_0_2 hX mw_251 dX9_player_31 34 rfl ?_
        refine cg_6_6 hX mw_95 (en (sE σ) : Int) h.2.2.1.2.1 dX9_player_34 37 rfl ?_
        refine zg_iconst hX dX9_player_37 38 rfl ?_
        refine zg_icmp_lt hX (by omega) (by omega) dX9_player_38 44 (by decide) 41 rfl (fun h38 => ?_) (fun h38 => ?_)
        · have el44_1 : (a : Int) = (a.toNat : Int) := by omega
          refine zg_to (lv2 := [(0, .ref (q 0)), (1, .int (zI (a.toNat : Int))), (2, .int (zI b))]) (ws2 := (cW cI q f r)) (st2 := []) ?_ rfl (by rw [← el44_1]) rfl
          have el44_2 : (b : Int) = (b.toNat : Int) := by omega
          refine zg_to (lv2 := [(0, .ref (q 0)), (1, .int (zI (a.toNat : Int))), (2, .int (zI (b.toNat : Int)))]) (ws2 := (cW cI q f r)) (st2 := []) ?_ rfl (by rw [← el44_2]) rfl
          refine zg_aload_n hX 0 rfl dX9_player_44 rfl 45 rfl ?_
          refine cg_0_2 hX mw_251 dX9_player_45 48 rfl ?_
          refine zg_iload_n hX 1 rfl dX9_player_48 rfl 49 rfl ?_
          refine zg_iload_n hX 2 rfl dX9_player_49 rfl 50 rfl ?_
          refine zg_callV (As := [.int (zI (a.toNat : Int)), .int (zI (b.toNat : Int))]) (rest := []) (k0 := 6) (ci := 3) hX (c_X3_welcome l D cI q f r (sE σ) a.toNat b.toNat h.2.2.1 (fun p => by have := hE.2.2.1 p; omega) (by omega) (by omega) (by omega)) mw_408 mw_409 mw_410 mw_4 mw_411 sg_X3_welcome (by decide) (by decide) (Nat.le_refl _) (Nat.le_refl _) rfl rfl rfl (Nat.le_of_ble_eq_true rfl) dX9_player_50 53 rfl (fun v50 W50 hp50 => ?_)
          obtain ⟨rfl, rfl⟩ := hp50
          show G X 3 0 0 (cW cI q (pu (pu (pu (pu f 5 (n6 (pu (et (sE σ)) (en (sE σ)) b.toNat))) 6 ((mk (isK (en (sE σ) + 1, pu (ek (sE σ)) (en (sE σ)) a.toNat, pu (et (sE σ)) (en (sE σ)) b.toNat, pu (eo (sE σ)) (en (sE σ)) 0, pu (ec (sE σ)) (en (sE σ)) 0, (sE σ).2.2.2.2.2) 2) 4 : Nat) : Int)) 7 ((mk (isK (en (sE σ) + 1, pu (ek (sE σ)) (en (sE σ)) a.toNat, pu (et (sE σ)) (en (sE σ)) b.toNat, pu (eo (sE σ)) (en (sE σ)) 0, pu (ec (sE σ)) (en (sE σ)) 0, (sE σ).2.2.2.2.2) 3) 4 : Nat) : Int)) 4 ((en (sE σ) : Int) + 1)) (pu (pu (pu r 3 (pu (r 3) (en (sE σ)) (a.toNat : Int))) 4 (pu (r 4) (en (sE σ)) 0)) 5 (pu (r 5) (en (sE σ)) 0))) [(0, .ref (q 0)), (1, .int (zI (a.toNat : Int))), (2, .int (zI (b.toNat : Int)))] 53 [.int (zI (en (sE σ) : Int))]
          exact zg_iret hX hR (Nat.le_refl _) (Nat.le_refl _) rfl dX9_player_53 (qC_ret (by unfold o_player; rw [if_neg (by omega), if_neg (by omega), if_neg (by omega)]) (player_rel h (by omega)))
        · refine zg_bipush hX dX9_player_41 43 rfl (by decide) ?_
          exact zg_iret hX hR (Nat.le_refl _) (Nat.le_refl _) rfl dX9_player_43 (qC_ret (by unfold o_player; rw [if_neg (by omega), if_neg (by omega), if_pos (by omega)]) h)
      · refine zg_bipush hX dX9_player_27 29 rfl (by decide) ?_
        exact zg_iret hX hR (Nat.le_refl _) (Nat.le_refl _) rfl dX9_player_29 (qC_ret (by unfold o_player; rw [if_neg (by omega), if_pos (by omega)]) h)
    · have h11a := of_decide_eq_false h11
      refine zg_bipush hX dX9_player_14 16 rfl (by decide) ?_
      exact zg_iret hX hR (Nat.le_refl _) (Nat.le_refl _) rfl dX9_player_16 (qC_ret (by unfold o_player; rw [if_pos (by omega)]) h)
-- QuartetNods.shareOfNext
set_option maxRecDepth 20000 in
theorem c_X9_shareOfNext (l : Launch) (D : va_G) (cI : ClassId) (q : Nat → Nat) (f : Nat → Int) (r : Nat → Nat → Int) (σ : Sg) (B : Nat) (p : Nat) (hσ : sOK σ B) (hB : B ≤ 100) (h : CRel f r σ) (hp : p < en (sE σ)) : Cn l D cI yX9_shareOfNext cX9_shareOfNext 2 (some .int) 3 0 0 [.ref (q 0), .int (zI (p : Int))] (cW cI q f r) (qC cI q ((σ, (shn σ p : Int)))) := by
  refine Cn.of [(0, .ref (q 0)), (1, .int (zI (p : Int)))] (by decide +kernel) (Nat.le_of_ble_eq_true rfl) rfl (fun X hX hR => ?_)
  have hsl := hσ.1
  have hg6 := hσ.2.1
  have hP := hσ.2.2.1
  have hE := hσ.2.2.2.1
  have hpb6 := hP.1
  have hpL9 := hP.2.1
  have hn4 := hE.1
  have hT6 := hE.2.2.2.2.1
  have hep := hE.2.2.2.2.2.2.2
  have hbk := hE.2.2.2.2.2.2.1
  have hs1 := hσ.2.2.2.2.2.1
  have hs2 := hσ.2.2.2.2.2.2.1
  have hs3 := hσ.2.2.2.2.2.2.2.1
  have hbd := hσ.2.2.2.2.2.2.2.2.1
  have hρ : RuOK (sr σ) := rho_OK hP hE
  have hc : cR f r (sr σ) := cR_of h.2.1 h.2.2.1
  have ht : tk (sr σ) (st σ) := rho_tk hE
  have hrb : rb (sr σ) = pb (sP σ) := rfl
  have hrn : rn (sr σ) = en (sE σ) := rfl
  have hrl : rl (sr σ) = pL (sP σ) := rfl
  refine zg_aload_n hX 0 rfl dX9_shareOfNext_0 rfl 1 rfl ?_
  refine cg_0_1 hX mw_250 dX9_shareOfNext_1 4 rfl ?_
  refine zg_aload_n hX 0 rfl dX9_shareOfNext_4 rfl 5 rfl ?_
  refine cg_0_2 hX mw_251 dX9_shareOfNext_5 8 rfl ?_
  refine cg_6_10 hX mw_106 (ep (sE σ) : Int) h.2.2.1.2.2.2.2.2.1 dX9_shareOfNext_8 11 rfl ?_
  refine zg_callVi (As := [.int (zI (ep (sE σ) : Int))]) (rest := []) (k0 := 3) (ci := 7) hX (c_X8_has l D cI q f r (pb (sP σ)) (ep (sE σ) : Int) h.2.1.1 (by omega) (by omega)) mw_346 mw_347 mw_348 mw_3 mw_349 sg_X8_has (by decide) (by decide) (Nat.le_refl _) (Nat.le_refl _) rfl rfl rfl (Nat.le_of_ble_eq_true rfl) dX9_shareOfNext_11 14 rfl ?_
  refine zg_ifb_ne hX dX9_shareOfNext_14 19 (by decide) 17 rfl (fun h14 => ?_) (fun h14 => ?_)
  · have h14a := of_decide_eq_true h14
    refine zg_aload_n hX 0 rfl dX9_shareOfNext_19 rfl 20 rfl ?_
    refine cg_0_4 hX mw_253 dX9_shareOfNext_20 23 rfl ?_
    refine zg_aload_n hX 0 rfl dX9_shareOfNext_23 rfl 24 rfl ?_
    refine cg_0_2 hX mw_251 dX9_shareOfNext_24 27 rfl ?_
    refine cg_6_10 hX mw_106 (ep (sE σ) : Int) h.2.2.1.2.2.2.2.2.1 dX9_shareOfNext_27 30 rfl ?_
    refine zg_aload_n hX 0 rfl dX9_shareOfNext_30 rfl 31 rfl ?_
    refine cg_0_2 hX mw_251 dX9_shareOfNext_31 34 rfl ?_
    refine cg_6_7 hX mw_100 (n6 (st σ)) h.2.2.1.2.2.1 dX9_shareOfNext_34 37 rfl ?_
    refine zg_callVi (As := [.int (zI (ep (sE σ) : Int)), .int (zI (n6 (st σ)))]) (rest := []) (k0 := 18) (ci := 2) hX (c_X2_sharesOf l D cI q f r (sr σ) (st σ) (ep (sE σ)) hρ hc ht (by omega)) mw_431 mw_355 mw_356 mw_5 mw_357 sg_X2_sharesOf (by decide) (by decide) (Nat.le_refl _) (Nat.le_refl _) rfl rfl rfl (Nat.le_of_ble_eq_true rfl) dX9_shareOfNext_37 40 rfl ?_
    have hsf := sh_facts (sr σ) (ep (sE σ)) (st σ) hρ
    refine zg_iload_n hX 1 rfl dX9_shareOfNext_40 rfl 41 rfl ?_
    refine zg_callSi (As := [.int (zI (n6 (sh (sr σ) (ep (sE σ)) (st σ)))), .int (zI (p : Int))]) (rest := []) hX (c_X5_get l D cI _ (sh (sr σ) (ep (sE σ)) (st σ)) p (fun p => by have := hsf.1 p; omega) (by omega)) mw_393 mw_363 mw_12 mw_364 sg_X5_get.2 (by decide) (by decide) (Nat.le_refl _) (Nat.le_refl _) rfl (Nat.le_of_ble_eq_true rfl) dX9_shareOfNext_41 44 rfl ?_
    exact zg_iret hX hR (Nat.le_refl _) (Nat.le_refl _) rfl dX9_shareOfNext_44 (qC_ret (by unfold shn; rw [if_pos (by omega)]) h)
  · have h14a := of_decide_eq_false h14
    refine zg_iconst hX dX9_shareOfNext_17 18 rfl ?_
    exact zg_iret hX hR (Nat.le_refl _) (Nat.le_refl _) rfl dX9_shareOfNext_18 (qC_ret (by unfold shn; rw [if_neg (by omega)]; rfl) h)
-- QuartetNods.ofPlayer
set_option maxRecDepth 20000 in
theorem c_X9_ofPlayer (l : Launch) (D : va_G) (cI : ClassId) (q : Nat → Nat) (f : Nat → Int) (r : Nat → Nat → Int) (σ : Sg) (B : Nat) (p : Nat) (w : Int) (hσ : sOK σ B) (hB : B ≤ 100) (h : CRel f r σ) (hp : p < en (sE σ)) (hw : 0 ≤ w ∧ w ≤ 6) : Cn l D cI yX9_ofPlayer cX9_ofPlayer 3 (some .int) 4 0 0 [.ref (q 0), .int (zI (p : Int)), .int (zI w)] (cW cI q f r) (qC cI q ((σ, tellP σ p w))) := by
  refine Cn.of [(0, .ref (q 0)), (1, .int (zI (p : Int))), (2, .int (zI w))] (by decide +kernel) (Nat.le_of_ble_eq_true rfl) rfl (fun X hX hR => ?_)
  have hsl := hσ.1
  have hg6 := hσ.2.1
  have hP := hσ.2.2.1
  have hE := hσ.2.2.2.1
  have hpb6 := hP.1
  have hpL9 := hP.2.1
  have hn4 := hE.1
  have hT6 := hE.2.2.2.2.1
  have hep := hE.2.2.2.2.2.2.2
  have hbk := hE.2.2.2.2.2.2.1
  have hs1 := hσ.2.2.2.2.2.1
  have hs2 := hσ.2.2.2.2.2.2.1
  have hs3 := hσ.2.2.2.2.2.2.2.1
  have hbd := hσ.2.2.2.2.2.2.2.2.1
  have hρ : RuOK (sr σ) := rho_OK hP hE
  have hc : cR f r (sr σ) := cR_of h.2.1 h.2.2.1
  have ht : tk (sr σ) (st σ) := rho_tk hE
  have hrb : rb (sr σ) = pb (sP σ) := rfl
  have hrn : rn (sr σ) = en (sE σ) := rfl
  have hrl : rl (sr σ) = pL (sP σ) := rfl
  refine zg_iload_n hX 2 rfl dX9_ofPlayer_0 rfl 1 rfl ?_
  rcases (show w = 0 ∨ w = 1 ∨ w = 2 ∨ w = 3 ∨ w = 4 ∨ w = 5 ∨ (w < 0 ∨ 5 < w) from by omega) with hs1 | hs1 | hs1 | hs1 | hs1 | hs1 | hs1
  · refine zg_tableIn hX (by omega) dX9_ofPlayer_1 (by omega) (by omega) 0 (by omega) rfl 40 (by decide) ?_
    refine zg_aload_n hX 0 rfl dX9_ofPlayer_40 rfl 41 rfl ?_
    refine cg_0_2 hX mw_251 dX9_ofPlayer_41 44 rfl ?_
    refine cg_6_0 hX mw_82 dX9_ofPlayer_44 47 rfl ?_
    refine zg_iload_n hX 1 rfl dX9_ofPlayer_47 rfl 48 rfl ?_
    refine ca_7 hX p (ek (sE σ) p : Int) (by omega) (by omega) (h.2.2.1.2.2.2.2.2.2.2.1 p hp) dX9_ofPlayer_48 49 rfl ?_
    exact zg_iret hX hR (Nat.le_refl _) (Nat.le_refl _) rfl dX9_ofPlayer_49 (qC_ret (by rw [hs1]; rfl) h)
  · refine zg_tableIn hX (by omega) dX9_ofPlayer_1 (by omega) (by omega) 1 (by omega) rfl 50 (by decide) ?_
    refine zg_aload_n hX 0 rfl dX9_ofPlayer_50 rfl 51 rfl ?_
    refine cg_0_2 hX mw_251 dX9_ofPlayer_51 54 rfl ?_
    refine cg_6_7 hX mw_100 (n6 (st σ)) h.2.2.1.2.2.1 dX9_ofPlayer_54 57 rfl ?_
    refine zg_iload_n hX 1 rfl dX9_ofPlayer_57 rfl 58 rfl ?_
    refine zg_callSi (As := [.int (zI (n6 (st σ))), .int (zI (p : Int))]) (rest := []) hX (c_X5_get l D cI _ (st σ) p (tk_16 ht) (by omega)) mw_393 mw_363 mw_12 mw_364 sg_X5_get.2 (by decide) (by decide) (Nat.le_refl _) (Nat.le_refl _) rfl (Nat.le_of_ble_eq_true rfl) dX9_ofPlayer_58 61 rfl ?_
    exact zg_iret hX hR (Nat.le_refl _) (Nat.le_refl _) rfl dX9_ofPlayer_61 (qC_ret (by rw [hs1]; rfl) h)
  · refine zg_tableIn hX (by omega) dX9_ofPlayer_1 (by omega) (by omega) 2 (by omega) rfl 62 (by decide) ?_
    refine zg_aload_n hX 0 rfl dX9_ofPlayer_62 rfl 63 rfl ?_
    refine cg_0_4 hX mw_253 dX9_ofPlayer_63 66 rfl ?_
    refine zg_aload_n hX 0 rfl dX9_ofPlayer_66 rfl 67 rfl ?_
    refine cg_0_2 hX mw_251 dX9_ofPlayer_67 70 rfl ?_
    refine cg_6_7 hX mw_100 (n6 (st σ)) h.2.2.1.2.2.1 dX9_ofPlayer_70 73 rfl ?_
    refine zg_callVi (As := [.int (zI (n6 (st σ)))]) (rest := []) (k0 := 18) (ci := 2) hX (c_X2_awakeOf l D cI q f r (sr σ) (st σ) hρ hc ht) mw_425 mw_359 mw_360 mw_5 mw_361 sg_X2_awakeOf (by decide) (by decide) (Nat.le_refl _) (Nat.le_refl _) rfl rfl rfl (Nat.le_of_ble_eq_true rfl) dX9_ofPlayer_73 76 rfl ?_
    refine zg_iload_n hX 1 rfl dX9_ofPlayer_76 rfl 77 rfl ?_
    refine zg_ishr hX ((mk (aw (sr σ) (st σ)) 4 / 2 ^ p : Nat) : Int) (zb_shr (by have := mk_rng (aw (sr σ) (st σ)) 4 (by omega); omega) (by omega)) dX9_ofPlayer_77 78 rfl ?_
    refine zg_iconst hX dX9_ofPlayer_78 79 rfl ?_
    refine zg_iand hX (b2 (aw (sr σ) (st σ) p)) (zb_bit (by omega)) dX9_ofPlayer_79 80 rfl ?_
    exact zg_iret hX hR (Nat.le_refl _) (Nat.le_refl _) rfl dX9_ofPlayer_80 (qC_ret (by rw [hs1]; rfl) h)
  · refine zg_tableIn hX (by omega) dX9_ofPlayer_1 (by omega) (by omega) 3 (by omega) rfl 81 (by decide) ?_
    refine zg_aload_n hX 0 rfl dX9_ofPlayer_81 rfl 82 rfl ?_
    refine cg_0_4 hX mw_253 dX9_ofPlayer_82 85 rfl ?_
    refine zg_aload_n hX 0 rfl dX9_ofPlayer_85 rfl 86 rfl ?_
    refine cg_0_4 hX mw_253 dX9_ofPlayer_86 89 rfl ?_
    refine zg_aload_n hX 0 rfl dX9_ofPlayer_89 rfl 90 rfl ?_
    refine cg_0_2 hX mw_251 dX9_ofPlayer_90 93 rfl ?_
    refine cg_6_7 hX mw_100 (n6 (st σ)) h.2.2.1.2.2.1 dX9_ofPlayer_93 96 rfl ?_
    refine zg_callVi (As := [.int (zI (n6 (st σ)))]) (rest := [.ref (q 18)]) (k0 := 18) (ci := 2) hX (c_X2_awakeOf l D cI q f r (sr σ) (st σ) hρ hc ht) mw_425 mw_359 mw_360 mw_5 mw_361 sg_X2_awakeOf (by decide) (by decide) (Nat.le_refl _) (Nat.le_refl _) rfl rfl rfl (Nat.le_of_ble_eq_true rfl) dX9_ofPlayer_96 99 rfl ?_
    refine zg_callVi (As := [.int (zI ((mk (aw (sr σ) (st σ)) 4 : Nat) : Int))]) (rest := []) (k0 := 18) (ci := 2) hX (c_X2_heardWith l D cI q f r (sr σ) (st σ) hρ hc) mw_426 mw_366 mw_367 mw_5 mw_368 sg_X2_heardWith (by decide) (by decide) (Nat.le_refl _) (Nat.le_refl _) rfl rfl rfl (Nat.le_of_ble_eq_true rfl) dX9_ofPlayer_99 102 rfl ?_
    refine zg_iload_n hX 1 rfl dX9_ofPlayer_102 rfl 103 rfl ?_
    refine zg_ishr hX ((mk (he (sr σ) (st σ)) 4 / 2 ^ p : Nat) : Int) (zb_shr (by have := mk_rng (he (sr σ) (st σ)) 4 (by omega); omega) (by omega)) dX9_ofPlayer_103 104 rfl ?_
    refine zg_iconst hX dX9_ofPlayer_104 105 rfl ?_
    refine zg_iand hX (b2 (he (sr σ) (st σ) p)) (zb_bit (by omega)) dX9_ofPlayer_105 106 rfl ?_
    exact zg_iret hX hR (Nat.le_refl _) (Nat.le_refl _) rfl dX9_ofPlayer_106 (qC_ret (by rw [hs1]; rfl) h)
  · refine zg_tableIn hX (by omega) dX9_ofPlayer_1 (by omega) (by omega) 4 (by omega) rfl 107 (by decide) ?_
    refine zg_aload_n hX 0 rfl dX9_ofPlayer_107 rfl 108 rfl ?_
    refine zg_iload_n hX 1 rfl dX9_ofPlayer_108 rfl 109 rfl ?_
    refine zg_callV (As := [.int (zI (p : Int))]) (rest := []) (k0 := 0) (ci := 8) hX (c_X9_shareOfNext l D cI q f r σ B p hσ hB h hp) mw_427 mw_429 mw_s3 mw_1 mw_430 sg_X9_shareOfNext (by decide) (by decide) (Nat.le_refl _) (Nat.le_refl _) rfl rfl rfl (Nat.le_of_ble_eq_true rfl) dX9_ofPlayer_109 112 rfl (fun v109 W109 hp109 => ?_)
    obtain ⟨F109, R109, rfl, rfl, hr109⟩ := hp109
    show G X 3 0 0 (cW cI q F109 R109) [(0, .ref (q 0)), (1, .int (zI (p : Int))), (2, .int (zI w))] 112 [.int (zI (shn σ p : Int))]
    exact zg_iret hX hR (Nat.le_refl _) (Nat.le_refl _) rfl dX9_ofPlayer_112 (qC_ret (by rw [hs1]; rfl) hr109)
  · refine zg_tableIn hX (by omega) dX9_ofPlayer_1 (by omega) (by omega) 5 (by omega) rfl 113 (by decide) ?_
    refine zg_aload_n hX 0 rfl dX9_ofPlayer_113 rfl 114 rfl ?_
    refine cg_0_2 hX mw_251 dX9_ofPlayer_114 117 rfl ?_
    refine cg_6_2 hX mw_86 dX9_ofPlayer_117 120 rfl ?_
    refine zg_iload_n hX 1 rfl dX9_ofPlayer_120 rfl 121 rfl ?_
    refine ca_9 hX p (eo (sE σ) p : Int) (by omega) (by omega) (h.2.2.1.2.2.2.2.2.2.2.2.2.1 p hp) dX9_ofPlayer_121 122 rfl ?_
    exact zg_iret hX hR (Nat.le_refl _) (Nat.le_refl _) rfl dX9_ofPlayer_122 (qC_ret (by rw [hs1]; rfl) h)
  · refine zg_tableOut hX (by omega) dX9_ofPlayer_1 (by omega) 123 (by decide) ?_
    refine zg_aload_n hX 0 rfl dX9_ofPlayer_123 rfl 124 rfl ?_
    refine cg_0_2 hX mw_251 dX9_ofPlayer_124 127 rfl ?_
    refine cg_6_1 hX mw_84 dX9_ofPlayer_127 130 rfl ?_
    refine zg_iload_n hX 1 rfl dX9_ofPlayer_130 rfl 131 rfl ?_
    refine ca_8 hX p (ec (sE σ) p : Int) (by omega) (by omega) (h.2.2.1.2.2.2.2.2.2.2.2.1 p hp) dX9_ofPlayer_131 132 rfl ?_
    exact zg_iret hX hR (Nat.le_refl _) (Nat.le_refl _) rfl dX9_ofPlayer_132 (qC_ret (by rw [show w = 6 by omega]; rfl) h)
-- QuartetNods.about
set_option maxRecDepth 20000 in
theorem c_X9_about (l : Launch) (D : va_G) (cI : ClassId) (q : Nat → Nat) (f : Nat → Int) (r : Nat → Nat → Int) (σ : Sg) (B : Nat) (a b : Int) (hσ : sOK σ B) (hB : B ≤ 100) (h : CRel f r σ) (ha : -2147483648 ≤ a ∧ a < 2147483648) (hb : -2147483648 ≤ b ∧ b < 2147483648) : Cn l D cI yX9_about cX9_about 3 (some .int) 5 0 0 [.ref (q 0), .int (zI a), .int (zI b)] (cW cI q f r) (qC cI q (o_about σ a b)) := by
  refine Cn.of [(0, .ref (q 0)), (1, .int (zI a)), (2, .int (zI b))] (by decide +kernel) (Nat.le_of_ble_eq_true rfl) rfl (fun X hX hR => ?_)
  have hsl := hσ.1
  have hg6 := hσ.2.1
  have hP := hσ.2.2.1
  have hE := hσ.2.2.2.1
  have hpb6 := hP.1
  have hpL9 := hP.2.1
  have hn4 := hE.1
  have hT6 := hE.2.2.2.2.1
  have hep := hE.2.2.2.2.2.2.2
  have hbk := hE.2.2.2.2.2.2.1
  have hs1 := hσ.2.2.2.2.2.1
  have hs2 := hσ.2.2.2.2.2.2.1
  have hs3 := hσ.2.2.2.2.2.2.2.1
  have hbd := hσ.2.2.2.2.2.2.2.2.1
  have hρ : RuOK (sr σ) := rho_OK hP hE
  have hc : cR f r (sr σ) := cR_of h.2.1 h.2.2.1
  have ht : tk (sr σ) (st σ) := rho_tk hE
  have hrb : rb (sr σ) = pb (sP σ) := rfl
  have hrn : rn (sr σ) = en (sE σ) := rfl
  have hrl : rl (sr σ) = pL (sP σ) := rfl
  refine zg_aload_n hX 0 rfl dX9_about_0 rfl 1 rfl ?_
  refine cg_0_2 hX mw_251 dX9_about_1 4 rfl ?_
  refine zg_iload_n hX 1 rfl dX9_about_4 rfl 5 rfl ?_
  refine zg_callVi (As := [.int (zI a)]) (rest := []) (k0 := 6) (ci := 3) hX (c_X3_has l D cI q f r (en (sE σ)) a h.2.2.1.2.1 (by omega) ha) mw_417 mw_418 mw_419 mw_4 mw_420 sg_X3_has (by decide) (by decide) (Nat.le_refl _) (Nat.le_refl _) rfl rfl rfl (Nat.le_of_ble_eq_true rfl) dX9_about_5 8 rfl ?_
  refine zg_ifb_ne hX dX9_about_8 14 (by decide) 11 rfl (fun h8 => ?_) (fun h8 => ?_)
  · have h8a := of_decide_eq_true h8
    refine zg_iload_n hX 2 rfl dX9_about_14 rfl 15 rfl ?_
    refine zg_if_lt hX (by omega) dX9_about_15 24 (by decide) 18 rfl (fun h15 => ?_) (fun h15 => ?_)
    · refine zg_bipush hX dX9_about_24 26 rfl (by decide) ?_
      exact zg_iret hX hR (Nat.le_refl _) (Nat.le_refl _) rfl dX9_about_26 (qC_ret (by unfold o_about; rw [if_pos h8a, if_neg (by omega)]) h)
    · refine zg_iload_n hX 2 rfl dX9_about_18 rfl 19 rfl ?_
      refine zg_bipush hX dX9_about_19 21 rfl (by decide) ?_
      refine zg_icmp_le hX (by omega) (by omega) dX9_about_21 27 (by decide) 24 rfl (fun h21 => ?_) (fun h21 => ?_)
      · have el27_1 : (a : Int) = (a.toNat : Int) := by omega
        refine zg_to (lv2 := [(0, .ref (q 0)), (1, .int (zI (a.toNat : Int))), (2, .int (zI b))]) (ws2 := (cW cI q f r)) (st2 := []) ?_ rfl (by rw [← el27_1]) rfl
        refine zg_aload_n hX 0 rfl dX9_about_27 rfl 28 rfl ?_
        refine zg_iload_n hX 1 rfl dX9_about_28 rfl 29 rfl ?_
        refine zg_iload_n hX 2 rfl dX9_about_29 rfl 30 rfl ?_
        refine zg_callV (As := [.int (zI (a.toNat : Int)), .int (zI b)]) (rest := []) (k0 := 0) (ci := 8) hX (c_X9_ofPlayer l D cI q f r σ B a.toNat b hσ hB h (by omega) (by omega)) mw_421 mw_423 mw_s2 mw_1 mw_424 sg_X9_ofPlayer (by decide) (by decide) (Nat.le_refl _) (Nat.le_refl _) rfl rfl rfl (Nat.le_of_ble_eq_true rfl) dX9_about_30 33 rfl (fun v30 W30 hp30 => ?_)
        obtain ⟨F30, R30, rfl, rfl, hr30⟩ := hp30
        show G X 3 0 0 (cW cI q F30 R30) [(0, .ref (q 0)), (1, .int (zI (a.toNat : Int))), (2, .int (zI b))] 33 [.int (zI (tellP σ a.toNat b))]
        exact zg_iret hX hR (Nat.le_refl _) (Nat.le_refl _) rfl dX9_about_33 (qC_ret (by unfold o_about; rw [if_pos h8a, if_pos (by omega)]) hr30)
      · refine zg_bipush hX dX9_about_24 26 rfl (by decide) ?_
        exact zg_iret hX hR (Nat.le_refl _) (Nat.le_refl _) rfl dX9_about_26 (qC_ret (by unfold o_about; rw [if_pos h8a, if_neg (by omega)]) h)
  · have h8a := of_decide_eq_false h8
    refine zg_bipush hX dX9_about_11 13 rfl (by decide) ?_
    exact zg_iret hX hR (Nat.le_refl _) (Nat.le_refl _) rfl dX9_about_13 (qC_ret (by unfold o_about; rw [if_neg h8a]) h)
-- QuartetNods.as
set_option maxRecDepth 20000 in
theorem c_X9_as (l : Launch) (D : va_G) (cI : ClassId) (q : Nat → Nat) (f : Nat → Int) (r : Nat → Nat → Int) (σ : Sg) (B : Nat) (a b : Int) (hσ : sOK σ B) (hB : B ≤ 100) (h : CRel f r σ) (ha : -2147483648 ≤ a ∧ a < 2147483648) (hb : -2147483648 ≤ b ∧ b < 2147483648) : Cn l D cI yX9_as cX9_as 3 (some .int) 2 0 0 [.ref (q 0), .int (zI a), .int (zI b)] (cW cI q f r) (qC cI q (o_as σ a b)) := by
  refine Cn.of [(0, .ref (q 0)), (1, .int (zI a)), (2, .int (zI b))] (by decide +kernel) (Nat.le_of_ble_eq_true rfl) rfl (fun X hX hR => ?_)
  have hsl := hσ.1
  have hg6 := hσ.2.1
  have hP := hσ.2.2.1
  have hE := hσ.2.2.2.1
  have hpb6 := hP.1
  have hpL9 := hP.2.1
  have hn4 := hE.1
  have hT6 := hE.2.2.2.2.1
  have hep := hE.2.2.2.2.2.2.2
  have hbk := hE.2.2.2.2.2.2.1
  have hs1 := hσ.2.2.2.2.2.1
  have hs2 := hσ.2.2.2.2.2.2.1
  have hs3 := hσ.2.2.2.2.2.2.2.1
  have hbd := hσ.2.2.2.2.2.2.2.2.1
  have hρ : RuOK (sr σ) := rho_OK hP hE
  have hc : cR f r (sr σ) := cR_of h.2.1 h.2.2.1
  have ht : tk (sr σ) (st σ) := rho_tk hE
  have hrb : rb (sr σ) = pb (sP σ) := rfl
  have hrn : rn (sr σ) = en (sE σ) := rfl
  have hrl : rl (sr σ) = pL (sP σ) := rfl
  refine zg_aload_n hX 0 rfl dX9_as_0 rfl 1 rfl ?_
  refine cg_0_2 hX mw_251 dX9_as_1 4 rfl ?_
  refine zg_iload_n hX 1 rfl dX9_as_4 rfl 5 rfl ?_
  refine zg_callVi (As := [.int (zI a)]) (rest := []) (k0 := 6) (ci := 3) hX (c_X3_has l D cI q f r (en (sE σ)) a h.2.2.1.2.1 (by omega) ha) mw_417 mw_418 mw_419 mw_4 mw_420 sg_X3_has (by decide) (by decide) (Nat.le_refl _) (Nat.le_refl _) rfl rfl rfl (Nat.le_of_ble_eq_true rfl) dX9_as_5 8 rfl ?_
  refine zg_ifb_ne hX dX9_as_8 14 (by decide) 11 rfl (fun h8 => ?_) (fun h8 => ?_)
  · have h8a := of_decide_eq_true h8
    refine zg_iload_n hX 2 rfl dX9_as_14 rfl 15 rfl ?_
    refine zg_callSi (As := [.int (zI b)]) (rest := []) hX (c_X9_isKind l D cI _ b hb) mw_402 mw_403 mw_1 mw_404 sg_X9_isKind.2 (by decide) (by decide) (Nat.le_refl _) (Nat.le_refl _) rfl (Nat.le_of_ble_eq_true rfl) dX9_as_15 18 rfl ?_
    refine zg_ifb_ne hX dX9_as_18 24 (by decide) 21 rfl (fun h18 => ?_) (fun h18 => ?_)
    · have h18a := of_decide_eq_true h18
      refine zg_aload_n hX 0 rfl dX9_as_24 rfl 25 rfl ?_
      refine cg_0_2 hX mw_251 dX9_as_25 28 rfl ?_
      refine cg_6_0 hX mw_82 dX9_as_28 31 rfl ?_
      refine zg_iload_n hX 1 rfl dX9_as_31 rfl 32 rfl ?_
      refine ca_7 hX a.toNat (ek (sE σ) a.toNat : Int) (by omega) (by omega) (h.2.2.1.2.2.2.2.2.2.2.1 _ (by omega)) dX9_as_32 33 rfl ?_
      refine zg_iload_n hX 2 rfl dX9_as_33 rfl 34 rfl ?_
      refine zg_callSi (As := [.int (zI (ek (sE σ) a.toNat : Int)), .int (zI b)]) (rest := []) hX (c_X9_isSuch l D cI _ (ek (sE σ) a.toNat) b (hE.2.1 _) h18a) mw_436 mw_437 mw_1 mw_438 sg_X9_isSuch.2 (by decide) (by decide) (Nat.le_refl _) (Nat.le_refl _) rfl (Nat.le_of_ble_eq_true rfl) dX9_as_34 37 rfl ?_
      refine zg_ifb_eq hX dX9_as_37 44 (by decide) 40 rfl (fun h37 => ?_) (fun h37 => ?_)
      · have h37a := of_decide_eq_false h37
        refine zg_iconst hX dX9_as_44 45 rfl ?_
        exact zg_iret hX hR (Nat.le_refl _) (Nat.le_refl _) rfl dX9_as_45 (by first | exact qC_ret (by unfold o_as; rw [if_pos h8a, if_pos h18a, if_pos h37a]) h | exact qC_ret (by unfold o_as; rw [if_pos h8a, if_pos h18a, if_neg h37a]) h)
      · have h37a := of_decide_eq_true h37
        refine zg_iload_n hX 1 rfl dX9_as_40 rfl 41 rfl ?_
        refine zg_goto hX dX9_as_41 45 (by decide) ?_
        exact zg_iret hX hR (Nat.le_refl _) (Nat.le_refl _) rfl dX9_as_45 (by first | exact qC_ret (by unfold o_as; rw [if_pos h8a, if_pos h18a, if_pos h37a]) h | exact qC_ret (by unfold o_as; rw [if_pos h8a, if_pos h18a, if_neg h37a]) h)
    · have h18a := of_decide_eq_false h18
      refine zg_bipush hX dX9_as_21 23 rfl (by decide) ?_
      exact zg_iret hX hR (Nat.le_refl _) (Nat.le_refl _) rfl dX9_as_23 (qC_ret (by unfold o_as; rw [if_pos h8a, if_neg h18a]) h)
  · have h8a := of_decide_eq_false h8
    refine zg_bipush hX dX9_as_11 13 rfl (by decide) ?_
    exact zg_iret hX hR (Nat.le_refl _) (Nat.le_refl _) rfl dX9_as_13 (qC_ret (by unfold o_as; rw [if_neg h8a]) h)
-- QuartetNods.coffee
set_option maxRecDepth 20000 in
theorem c_X9_coffee (l : Launch) (D : va_G) (cI : ClassId) (q : Nat → Nat) (f : Nat → Int) (r : Nat → Nat → Int) (σ : Sg) (B : Nat) (a : Int) (hσ : sOK σ B) (hB : B ≤ 100) (h : CRel f r σ) (ha : -2147483648 ≤ a ∧ a < 2147483648) : Cn l D cI yX9_coffee cX9_coffee 2 (some .int) 2 0 0 [.ref (q 0), .int (zI a)] (cW cI q f r) (qC cI q (o_coffee σ a)) := by
  refine Cn.of [(0, .ref (q 0)), (1, .int (zI a))] (by decide +kernel) (Nat.le_of_ble_eq_true rfl) rfl (fun X hX hR => ?_)
  have hsl := hσ.1
  have hg6 := hσ.2.1
  have hP := hσ.2.2.1
  have hE := hσ.2.2.2.1
  have hpb6 := hP.1
  have hpL9 := hP.2.1
  have hn4 := hE.1
  have hT6 := hE.2.2.2.2.1
  have hep := hE.2.2.2.2.2.2.2
  have hbk := hE.2.2.2.2.2.2.1
  have hs1 := hσ.2.2.2.2.2.1
  have hs2 := hσ.2.2.2.2.2.2.1
  have hs3 := hσ.2.2.2.2.2.2.2.1
  have hbd := hσ.2.2.2.2.2.2.2.2.1
  have hρ : RuOK (sr σ) := rho_OK hP hE
  have hc : cR f r (sr σ) := cR_of h.2.1 h.2.2.1
  have ht : tk (sr σ) (st σ) := rho_tk hE
  have hrb : rb (sr σ) = pb (sP σ) := rfl
  have hrn : rn (sr σ) = en (sE σ) := rfl
  have hrl : rl (sr σ) = pL (sP σ) := rfl
  refine zg_aload_n hX 0 rfl dX9_coffee_0 rfl 1 rfl ?_
  refine cg_0_2 hX mw_251 dX9_coffee_1 4 rfl ?_
  refine zg_iload_n hX 1 rfl dX9_coffee_4 rfl 5 rfl ?_
  refine zg_callVi (As := [.int (zI a)]) (rest := []) (k0 := 6) (ci := 3) hX (c_X3_has l D cI q f r (en (sE σ)) a h.2.2.1.2.1 (by omega) ha) mw_417 mw_418 mw_419 mw_4 mw_420 sg_X3_has (by decide) (by decide) (Nat.le_refl _) (Nat.le_refl _) rfl rfl rfl (Nat.le_of_ble_eq_true rfl) dX9_coffee_5 8 rfl ?_
  refine zg_ifb_ne hX dX9_coffee_8 14 (by decide) 11 rfl (fun h8 => ?_) (fun h8 => ?_)
  · have h8a := of_decide_eq_true h8
    have el14_1 : (a : Int) = (a.toNat : Int) := by omega
    refine zg_to (lv2 := [(0, .ref (q 0)), (1, .int (zI (a.toNat : Int)))]) (ws2 := (cW cI q f r)) (st2 := []) ?_ rfl (by rw [← el14_1]) rfl
    have h9a := ht.1 a.toNat
    refine zg_aload_n hX 0 rfl dX9_coffee_14 rfl 15 rfl ?_
    refine cg_0_2 hX mw_251 dX9_coffee_15 18 rfl ?_
    refine zg_aload_n hX 0 rfl dX9_coffee_18 rfl 19 rfl ?_
    refine cg_0_2 hX mw_251 dX9_coffee_19 22 rfl ?_
    refine cg_6_7 hX mw_100 (n6 (st σ)) h.2.2.1.2.2.1 dX9_coffee_22 25 rfl ?_
    refine zg_iload_n hX 1 rfl dX9_coffee_25 rfl 26 rfl ?_
    refine zg_callSi (As := [.int (zI (n6 (st σ))), .int (zI (a.toNat : Int))]) (rest := [.ref (q 6)]) hX (c_X9_refreshed l D cI _ (st σ) a.toNat (tk_16 ht) (by omega)) mw_443 mw_444 mw_1 mw_445 sg_X9_refreshed.2 (by decide) (by decide) (Nat.le_refl _) (Nat.le_refl _) rfl (Nat.le_of_ble_eq_true rfl) dX9_coffee_26 29 rfl ?_
    refine cp_6_7 hX mw_100 dX9_coffee_29 32 rfl ?_
    refine zg_aload_n hX 0 rfl dX9_coffee_32 rfl 33 rfl ?_
    refine cg_0_2 hX mw_251 dX9_coffee_33 36 rfl ?_
    refine cg_6_1 hX mw_84 dX9_coffee_36 39 rfl ?_
    refine zg_iload_n hX 1 rfl dX9_coffee_39 rfl 40 rfl ?_
    refine zg_dup2 hX rfl rfl dX9_coffee_40 41 rfl ?_
    refine ca_8 hX a.toNat (ec (sE σ) a.toNat : Int) (by omega) (by omega) (h.2.2.1.2.2.2.2.2.2.2.2.1 _ (by omega)) dX9_coffee_41 42 rfl ?_
    refine zg_iconst hX dX9_coffee_42 43 rfl ?_
    refine zg_iadd hX dX9_coffee_43 44 rfl ?_
    refine cs_8 hX a.toNat (by omega) (by omega) dX9_coffee_44 45 rfl ?_
    refine zg_aload_n hX 0 rfl dX9_coffee_45 rfl 46 rfl ?_
    refine cg_0_2 hX mw_251 dX9_coffee_46 49 rfl ?_
    refine cg_6_7 hX mw_100 (n6 (rf (st σ) a.toNat)) rfl dX9_coffee_49 52 rfl ?_
    refine zg_iload_n hX 1 rfl dX9_coffee_52 rfl 53 rfl ?_
    refine zg_callSi (As := [.int (zI (n6 (rf (st σ) a.toNat))), .int (zI (a.toNat : Int))]) (rest := []) hX (c_X5_get l D cI _ (rf (st σ) a.toNat) a.toNat (fun p => by have := (tk_rf ht (by omega) : tk (sr σ) (rf (st σ) a.toNat)).1 p; omega) (by omega)) mw_393 mw_363 mw_12 mw_364 sg_X5_get.2 (by decide) (by decide) (Nat.le_refl _) (Nat.le_refl _) rfl (Nat.le_of_ble_eq_true rfl) dX9_coffee_53 56 rfl ?_
    exact zg_iret hX hR (Nat.le_refl _) (Nat.le_refl _) rfl dX9_coffee_56 (qC_ret (by unfold o_coffee; rw [if_pos h8a]; rw [show rf (st σ) a.toNat a.toNat = st σ a.toNat - 4 from pu_eq _ _ _]) (coffee_rel h (by omega)))
  · have h8a := of_decide_eq_false h8
    refine zg_bipush hX dX9_coffee_11 13 rfl (by decide) ?_
    exact zg_iret hX hR (Nat.le_refl _) (Nat.le_refl _) rfl dX9_coffee_13 (qC_ret (by unfold o_coffee; rw [if_neg h8a]) h)
-- QuartetNods.tire
set_option maxRecDepth 20000 in
theorem c_X9_tire (l : Launch) (D : va_G) (cI : ClassId) (q : Nat → Nat) (f : Nat → Int) (r : Nat → Nat → Int) (σ : Sg) (B : Nat) (a b : Int) (hσ : sOK σ B) (hB : B ≤ 100) (h : CRel f r σ) (ha : -2147483648 ≤ a ∧ a < 2147483648) (hb : -2147483648 ≤ b ∧ b < 2147483648) : Cn l D cI yX9_tire cX9_tire 4 (some .int) 2 0 0 [.ref (q 0), .int (zI a), .int (zI b)] (cW cI q f r) (qC cI q (o_tire σ a b)) := by
  refine Cn.of [(0, .ref (q 0)), (1, .int (zI a)), (2, .int (zI b))] (by decide +kernel) (Nat.le_of_ble_eq_true rfl) rfl (fun X hX hR => ?_)
  have hsl := hσ.1
  have hg6 := hσ.2.1
  have hP := hσ.2.2.1
  have hE := hσ.2.2.2.1
  have hpb6 := hP.1
  have hpL9 := hP.2.1
  have hn4 := hE.1
  have hT6 := hE.2.2.2.2.1
  have hep := hE.2.2.2.2.2.2.2
  have hbk := hE.2.2.2.2.2.2.1
  have hs1 := hσ.2.2.2.2.2.1
  have hs2 := hσ.2.2.2.2.2.2.1
  have hs3 := hσ.2.2.2.2.2.2.2.1
  have hbd := hσ.2.2.2.2.2.2.2.2.1
  have hρ : RuOK (sr σ) := rho_OK hP hE
  have hc : cR f r (sr σ) := cR_of h.2.1 h.2.2.1
  have ht : tk (sr σ) (st σ) := rho_tk hE
  have hrb : rb (sr σ) = pb (sP σ) := rfl
  have hrn : rn (sr σ) = en (sE σ) := rfl
  have hrl : rl (sr σ) = pL (sP σ) := rfl
  refine zg_aload_n hX 0 rfl dX9_tire_0 rfl 1 rfl ?_
  refine cg_0_2 hX mw_251 dX9_tire_1 4 rfl ?_
  refine zg_iload_n hX 1 rfl dX9_tire_4 rfl 5 rfl ?_
  refine zg_callVi (As := [.int (zI a)]) (rest := []) (k0 := 6) (ci := 3) hX (c_X3_has l D cI q f r (en (sE σ)) a h.2.2.1.2.1 (by omega) ha) mw_417 mw_418 mw_419 mw_4 mw_420 sg_X3_has (by decide) (by decide) (Nat.le_refl _) (Nat.le_refl _) rfl rfl rfl (Nat.le_of_ble_eq_true rfl) dX9_tire_5 8 rfl ?_
  refine zg_ifb_ne hX dX9_tire_8 14 (by decide) 11 rfl (fun h8 => ?_) (fun h8 => ?_)
  · have h8a := of_decide_eq_true h8
    refine zg_iload_n hX 2 rfl dX9_tire_14 rfl 15 rfl ?_
    refine zg_callSi (As := [.int (zI b)]) (rest := []) hX (c_X9_isTiredness l D cI _ b hb) mw_405 mw_406 mw_1 mw_407 sg_X9_isTiredness.2 (by decide) (by decide) (Nat.le_refl _) (Nat.le_refl _) rfl (Nat.le_of_ble_eq_true rfl) dX9_tire_15 18 rfl ?_
    refine zg_ifb_ne hX dX9_tire_18 24 (by decide) 21 rfl (fun h18 => ?_) (fun h18 => ?_)
    · have h18a := of_decide_eq_true h18
      have el24_1 : (a : Int) = (a.toNat : Int) := by omega
      refine zg_to (lv2 := [(0, .ref (q 0)), (1, .int (zI (a.toNat : Int))), (2, .int (zI b))]) (ws2 := (cW cI q f r)) (st2 := []) ?_ rfl (by rw [← el24_1]) rfl
      have el24_2 : (b : Int) = (b.toNat : Int) := by omega
      refine zg_to (lv2 := [(0, .ref (q 0)), (1, .int (zI (a.toNat : Int))), (2, .int (zI (b.toNat : Int)))]) (ws2 := (cW cI q f r)) (st2 := []) ?_ rfl (by rw [← el24_2]) rfl
      refine zg_aload_n hX 0 rfl dX9_tire_24 rfl 25 rfl ?_
      refine cg_0_2 hX mw_251 dX9_tire_25 28 rfl ?_
      refine cg_6_7 hX mw_100 (n6 (st σ)) h.2.2.1.2.2.1 dX9_tire_28 31 rfl ?_
      refine zg_iload_n hX 1 rfl dX9_tire_31 rfl 32 rfl ?_
      refine zg_callSi (As := [.int (zI (n6 (st σ))), .int (zI (a.toNat : Int))]) (rest := []) hX (c_X5_get l D cI _ (st σ) a.toNat (tk_16 ht) (by omega)) mw_393 mw_363 mw_12 mw_364 sg_X5_get.2 (by decide) (by decide) (Nat.le_refl _) (Nat.le_refl _) rfl (Nat.le_of_ble_eq_true rfl) dX9_tire_32 35 rfl ?_
      refine zg_istore_n hX [(3, .int (zI (st σ a.toNat : Int))), (0, .ref (q 0)), (1, .int (zI (a.toNat : Int))), (2, .int (zI (b.toNat : Int)))] dX9_tire_35 rfl (by decide) rfl 36 rfl ?_
      refine zg_aload_n hX 1 rfl dX9_tire_36 rfl 37 rfl ?_
      refine cg_0_2 hX mw_251 dX9_tire_37 40 rfl ?_
      refine zg_aload_n hX 1 rfl dX9_tire_40 rfl 41 rfl ?_
      refine cg_0_2 hX mw_251 dX9_tire_41 44 rfl ?_
      refine cg_6_7 hX mw_100 (n6 (st σ)) h.2.2.1.2.2.1 dX9_tire_44 47 rfl ?_
      refine zg_iload_n hX 2 rfl dX9_tire_47 rfl 48 rfl ?_
      refine zg_iload_n hX 3 rfl dX9_tire_48 rfl 49 rfl ?_
      refine zg_callSi (As := [.int (zI (n6 (st σ))), .int (zI (a.toNat : Int)), .int (zI (b.toNat : Int))]) (rest := [.ref (q 6)]) hX (c_X5_with l D cI _ (st σ) a.toNat b.toNat (tk_16 ht) (by omega) (by omega)) mw_447 mw_376 mw_12 mw_377 sg_X5_with.2 (by decide) (by decide) (Nat.le_refl _) (Nat.le_refl _) rfl (Nat.le_of_ble_eq_true rfl) dX9_tire_49 52 rfl ?_
      refine cp_6_7 hX mw_100 dX9_tire_52 55 rfl ?_
      refine zg_iload_n hX 0 rfl dX9_tire_55 rfl 56 rfl ?_
      exact zg_iret hX hR (Nat.le_refl _) (Nat.le_refl _) rfl dX9_tire_56 (qC_ret (by unfold o_tire; rw [if_pos h8a, if_pos h18a]) (tire_rel h))
    · have h18a := of_decide_eq_false h18
      refine zg_bipush hX dX9_tire_21 23 rfl (by decide) ?_
      exact zg_iret hX hR (Nat.le_refl _) (Nat.le_refl _) rfl dX9_tire_23 (qC_ret (by unfold o_tire; rw [if_pos h8a, if_neg h18a]) h)
  · have h8a := of_decide_eq_false h8
    refine zg_bipush hX dX9_tire_11 13 rfl (by decide) ?_
    exact zg_iret hX hR (Nat.le_refl _) (Nat.le_refl _) rfl dX9_tire_13 (qC_ret (by unfold o_tire; rw [if_neg h8a]) h)
-- QuartetNods.play
set_option maxRecDepth 20000 in
theorem c_X9_play (l : Launch) (D : va_G) (cI : ClassId) (q : Nat → Nat) (f : Nat → Int) (r : Nat → Nat → Int) (σ : Sg) (B : Nat)  (hσ : sOK σ B) (hB : B ≤ 100) (h : CRel f r σ) : Cn l D cI yX9_play cX9_play 5 (some .int) 3 0 0 [.ref (q 0)] (cW cI q f r) (qC cI q (o_play σ)) := by
  refine Cn.of [(0, .ref (q 0))] (by decide +kernel) (Nat.le_of_ble_eq_true rfl) rfl (fun X hX hR => ?_)
  have hsl := hσ.1
  have hg6 := hσ.2.1
  have hP := hσ.2.2.1
  have hE := hσ.2.2.2.1
  have hpb6 := hP.1
  have hpL9 := hP.2.1
  have hn4 := hE.1
  have hT6 := hE.2.2.2.2.1
  have hep := hE.2.2.2.2.2.2.2
  have hbk := hE.2.2.2.2.2.2.1
  have hs1 := hσ.2.2.2.2.2.1
  have hs2 := hσ.2.2.2.2.2.2.1
  have hs3 := hσ.2.2.2.2.2.2.2.1
  have hbd := hσ.2.2.2.2.2.2.2.2.1
  have hρ : RuOK (sr σ) := rho_OK hP hE
  have hc : cR f r (sr σ) := cR_of h.2.1 h.2.2.1
  have ht : tk (sr σ) (st σ) := rho_tk hE
  have hrb : rb (sr σ) = pb (sP σ) := rfl
  have hrn : rn (sr σ) = en (sE σ) := rfl
  have hrl : rl (sr σ) = pL (sP σ) := rfl
  refine zg_aload_n hX 0 rfl dX9_play_0 rfl 1 rfl ?_
  refine cg_0_2 hX mw_251 dX9_play_1 4 rfl ?_
  refine cg_6_10 hX mw_106 (ep (sE σ) : Int) h.2.2.1.2.2.2.2.2.1 dX9_play_4 7 rfl ?_
  refine zg_istore_n hX [(1, .int (zI (ep (sE σ) : Int))), (0, .ref (q 0))] dX9_play_7 rfl (by decide) rfl 8 rfl ?_
  refine zg_aload_n hX 1 rfl dX9_play_8 rfl 9 rfl ?_
  refine cg_0_1 hX mw_250 dX9_play_9 12 rfl ?_
  refine zg_iload_n hX 0 rfl dX9_play_12 rfl 13 rfl ?_
  refine zg_callVi (As := [.int (zI (ep (sE σ) : Int))]) (rest := []) (k0 := 3) (ci := 7) hX (c_X8_has l D cI q f r (pb (sP σ)) (ep (sE σ) : Int) h.2.1.1 (by omega) (by omega)) mw_346 mw_347 mw_348 mw_3 mw_349 sg_X8_has (by decide) (by decide) (Nat.le_refl _) (Nat.le_refl _) rfl rfl rfl (Nat.le_of_ble_eq_true rfl) dX9_play_13 16 rfl ?_
  refine zg_ifb_ne hX dX9_play_16 22 (by decide) 19 rfl (fun h16 => ?_) (fun h16 => ?_)
  · have h16a := of_decide_eq_true h16
    have hsf := sh_facts (sr σ) (ep (sE σ)) (st σ) hρ
    have hlo := lo_le (sr σ) (ep (sE σ)) (st σ) hρ
    have hpp : rp (sr σ) (ep (sE σ)) = pp (sP σ) (ep (sE σ)) := rfl
    refine zg_aload_n hX 1 rfl dX9_play_22 rfl 23 rfl ?_
    refine cg_0_4 hX mw_253 dX9_play_23 26 rfl ?_
    refine zg_iload_n hX 0 rfl dX9_play_26 rfl 27 rfl ?_
    refine zg_aload_n hX 1 rfl dX9_play_27 rfl 28 rfl ?_
    refine cg_0_2 hX mw_251 dX9_play_28 31 rfl ?_
    refine cg_6_7 hX mw_100 (n6 (st σ)) h.2.2.1.2.2.1 dX9_play_31 34 rfl ?_
    refine zg_callVi (As := [.int (zI (ep (sE σ) : Int)), .int (zI (n6 (st σ)))]) (rest := []) (k0 := 18) (ci := 2) hX (c_X2_sharesOf l D cI q f r (sr σ) (st σ) (ep (sE σ)) hρ hc ht (by omega)) mw_431 mw_355 mw_356 mw_5 mw_357 sg_X2_sharesOf (by decide) (by decide) (Nat.le_refl _) (Nat.le_refl _) rfl rfl rfl (Nat.le_of_ble_eq_true rfl) dX9_play_34 37 rfl ?_
    refine zg_istore_n hX [(2, .int (zI (n6 (sh (sr σ) (ep (sE σ)) (st σ))))), (1, .int (zI (ep (sE σ) : Int))), (0, .ref (q 0))] dX9_play_37 rfl (by decide) rfl 38 rfl ?_
    refine zg_aload_n hX 2 rfl dX9_play_38 rfl 39 rfl ?_
    refine cg_0_1 hX mw_250 dX9_play_39 42 rfl ?_
    refine cg_3_1 hX mw_55 dX9_play_42 45 rfl ?_
    refine zg_iload_n hX 1 rfl dX9_play_45 rfl 46 rfl ?_
    refine ca_5 hX (ep (sE σ)) (pp (sP σ) (ep (sE σ)) : Int) (by omega) (by omega) (h.2.1.2.2.2 _ (by omega)) dX9_play_46 47 rfl ?_
    refine zg_iload_n hX 0 rfl dX9_play_47 rfl 48 rfl ?_
    refine zg_callSi (As := [.int (zI (n6 (sh (sr σ) (ep (sE σ)) (st σ))))]) (rest := [.int (zI (pp (sP σ) (ep (sE σ)) : Int))]) hX (c_X5_sum l D cI _ (sh (sr σ) (ep (sE σ)) (st σ)) (fun p => by have := hsf.1 p; omega)) mw_456 mw_379 mw_12 mw_380 sg_X5_sum.2 (by decide) (by decide) (Nat.le_refl _) (Nat.le_refl _) rfl (Nat.le_of_ble_eq_true rfl) dX9_play_48 51 rfl ?_
    refine zg_isub hX dX9_play_51 52 rfl ?_
    have e52 : ((pp (sP σ) (ep (sE σ)) : Int) - (su (sh (sr σ) (ep (sE σ)) (st σ)) 6 : Int) : Int) = (lo (sr σ) (ep (sE σ)) (st σ) : Int) := by omega
    refine zg_to (lv2 := [(2, .int (zI (n6 (sh (sr σ) (ep (sE σ)) (st σ))))), (1, .int (zI (ep (sE σ) : Int))), (0, .ref (q 0))]) (ws2 := (cW cI q f r)) (st2 := [.int (zI (lo (sr σ) (ep (sE σ)) (st σ) : Int))]) ?_ rfl rfl (by first | (rw [e52]; done) | (rw [← e52]; done))
    refine zg_istore_n hX [(3, .int (zI (lo (sr σ) (ep (sE σ)) (st σ) : Int))), (2, .int (zI (n6 (sh (sr σ) (ep (sE σ)) (st σ))))), (1, .int (zI (ep (sE σ) : Int))), (0, .ref (q 0))] dX9_play_52 rfl (by decide) rfl 53 rfl ?_
    refine zg_iconst hX dX9_play_53 54 rfl ?_
    refine zg_istore hX [(4, .int (zI 0)), (3, .int (zI (lo (sr σ) (ep (sE σ)) (st σ) : Int))), (2, .int (zI (n6 (sh (sr σ) (ep (sE σ)) (st σ))))), (1, .int (zI (ep (sE σ) : Int))), (0, .ref (q 0))] dX9_play_54 (by decide) rfl 56 rfl ?_
    have L56 : ∀ (fuel : Nat) (i : Nat) (R1 : Nat → Nat → Int) (x56_4 : Int), (en (sE σ) - i < fuel) → (i ≤ en (sE σ)) → (∀ k, k ≠ 5 → R1 k = r k) → (∀ p, p < i → R1 5 p = (eo (sE σ) p : Int) + (sh (sr σ) (ep (sE σ)) (st σ) p : Int)) → (∀ p, i ≤ p → R1 5 p = r 5 p) → x56_4 = (i : Int) → G X 5 0 0 (cW cI q f R1) [(0, .ref (q 0)), (1, .int (zI (ep (sE σ) : Int))), (2, .int (zI (n6 (sh (sr σ) (ep (sE σ)) (st σ))))), (3, .int (zI (lo (sr σ) (ep (sE σ)) (st σ) : Int))), (4, .int (zI x56_4))] 56 [] := by
      intro fuel
      induction fuel with
      | zero =>
        intro i R1 x56_4 hm56
        exact absurd hm56 (Nat.not_lt_zero _)
      | succ fuel ih56 =>
        intro i R1 x56_4 hm56 hi hR1 hR5 hR5b ex56_4
        subst ex56_4
        refine zg_iload hX 4 rfl dX9_play_56 58 rfl ?_
        refine zg_aload_n hX 0 rfl dX9_play_58 rfl 59 rfl ?_
        refine cg_0_2 hX mw_251 dX9_play_59 62 rfl ?_
        refine cg_6_6 hX mw_95 (en (sE σ) : Int) h.2.2.1.2.1 dX9_play_62 65 rfl ?_
        refine zg_icmp_ge hX (by omega) (by omega) dX9_play_65 93 (by decide) 68 rfl (fun h65 => ?_) (fun h65 => ?_)
        · refine zg_aload_n hX 0 rfl dX9_play_93 rfl 94 rfl ?_
          refine cg_0_2 hX mw_251 dX9_play_94 97 rfl ?_
          refine zg_aload_n hX 0 rfl dX9_play_97 rfl 98 rfl ?_
          refine cg_0_4 hX mw_253 dX9_play_98 101 rfl ?_
          refine zg_iload_n hX 1 rfl dX9_play_101 rfl 102 rfl ?_
          refine zg_aload_n hX 0 rfl dX9_play_102 rfl 103 rfl ?_
          refine cg_0_2 hX mw_251 dX9_play_103 106 rfl ?_
          refine cg_6_7 hX mw_100 (n6 (st σ)) h.2.2.1.2.2.1 dX9_play_106 109 rfl ?_
          refine zg_iload_n hX 2 rfl dX9_play_109 rfl 110 rfl ?_
          refine zg_callVi (As := [.int (zI (ep (sE σ) : Int)), .int (zI (n6 (st σ))), .int (zI (n6 (sh (sr σ) (ep (sE σ)) (st σ))))]) (rest := [.ref (q 6)]) (k0 := 18) (ci := 2) hX (c_X2_tiredBehind l D cI q f R1 (sr σ) (st σ) (ep (sE σ)) hρ (cR_r hc hR1) ht (by omega)) mw_457 mw_383 mw_384 mw_5 mw_385 sg_X2_tiredBehind (by decide) (by decide) (Nat.le_refl _) (Nat.le_refl _) rfl rfl rfl (Nat.le_of_ble_eq_true rfl) dX9_play_110 113 rfl ?_
          refine cp_6_7 hX mw_100 dX9_play_113 116 rfl ?_
          refine zg_aload_n hX 0 rfl dX9_play_116 rfl 117 rfl ?_
          refine cg_0_2 hX mw_251 dX9_play_117 120 rfl ?_
          refine zg_dup hX rfl dX9_play_120 121 rfl ?_
          refine cg_6_11 hX mw_108 (es (sE σ) : Int) h.2.2.1.2.2.2.2.2.2.1 dX9_play_121 124 rfl ?_
          refine zg_iload_n hX 3 rfl dX9_play_124 rfl 125 rfl ?_
          refine zg_iadd hX dX9_play_125 126 rfl ?_
          refine cp_6_11 hX mw_108 dX9_play_126 129 rfl ?_
          refine zg_aload_n hX 0 rfl dX9_play_129 rfl 130 rfl ?_
          refine cg_0_2 hX mw_251 dX9_play_130 133 rfl ?_
          refine zg_dup hX rfl dX9_play_133 134 rfl ?_
          refine cg_6_10 hX mw_106 (ep (sE σ) : Int) h.2.2.1.2.2.2.2.2.1 dX9_play_134 137 rfl ?_
          refine zg_iconst hX dX9_play_137 138 rfl ?_
          refine zg_iadd hX dX9_play_138 139 rfl ?_
          refine cp_6_10 hX mw_106 dX9_play_139 142 rfl ?_
          refine zg_iload_n hX 3 rfl dX9_play_142 rfl 143 rfl ?_
          exact zg_iret hX hR (Nat.le_refl _) (Nat.le_refl _) rfl dX9_play_143 (qC_ret (by unfold o_play; rw [if_pos (by omega)]) (play_rel h hR1 (fun p hp => hR5 p (by omega))))
        · refine zg_aload_n hX 0 rfl dX9_play_68 rfl 69 rfl ?_
          refine cg_0_2 hX mw_251 dX9_play_69 72 rfl ?_
          refine cg_6_2 hX mw_86 dX9_play_72 75 rfl ?_
          refine zg_iload hX 4 rfl dX9_play_75 77 rfl ?_
          refine zg_dup2 hX rfl rfl dX9_play_77 78 rfl ?_
          refine ca_9 hX i (eo (sE σ) i : Int) (by omega) (by omega) (by rw [hR5b i (Nat.le_refl _)]; exact h.2.2.1.2.2.2.2.2.2.2.2.2.1 i (by omega)) dX9_play_78 79 rfl ?_
          refine zg_iload_n hX 2 rfl dX9_play_79 rfl 80 rfl ?_
          refine zg_iload hX 4 rfl dX9_play_80 82 rfl ?_
          refine zg_callSi (As := [.int (zI (n6 (sh (sr σ) (ep (sE σ)) (st σ)))), .int (zI (i : Int))]) (rest := [.int (zI (eo (sE σ) i : Int)), .int (zI (i : Int)), .ref (q 9)]) hX (c_X5_get l D cI _ (sh (sr σ) (ep (sE σ)) (st σ)) i (fun p => by have := hsf.1 p; omega) (by omega)) mw_393 mw_363 mw_12 mw_364 sg_X5_get.2 (by decide) (by decide) (Nat.le_refl _) (Nat.le_refl _) rfl (Nat.le_of_ble_eq_true rfl) dX9_play_82 85 rfl ?_
          refine zg_iadd hX dX9_play_85 86 rfl ?_
          refine cs_9 hX i (by omega) (by omega) dX9_play_86 87 rfl ?_
          refine zg_iinc hX [(4, .int (zI ((i : Int) + 1))), (0, .ref (q 0)), (1, .int (zI (ep (sE σ) : Int))), (2, .int (zI (n6 (sh (sr σ) (ep (sE σ)) (st σ))))), (3, .int (zI (lo (sr σ) (ep (sE σ)) (st σ) : Int)))] 4 rfl dX9_play_87 (by decide) rfl 90 rfl ?_
          refine zg_goto hX dX9_play_90 56 (by decide) ?_
          exact zg_lv _ [1, 2, 3, 4, 0] rfl (ih56 (i + 1) (pu R1 5 (pu (R1 5) i ((eo (sE σ) i : Int) + (sh (sr σ) (ep (sE σ)) (st σ) i : Int)))) _ (by omega) (by omega) (fun k hk => by rw [pu_ne _ _ hk]; exact hR1 k hk) (fun p hp => by
              rw [pu_eq, pu_at]; split
              · next e => subst e; rfl
              · exact hR5 p (by omega)) (fun p hp => by rw [pu_eq, pu_ne _ _ (by omega)]; exact hR5b p (by omega)) (by omega))
    exact zg_lv _ [4, 3, 2, 1, 0] rfl (L56 _ 0 r _ (Nat.lt_succ_self _) (by omega) (fun _ _ => rfl) (fun p hp => absurd hp (Nat.not_lt_zero p)) (fun _ _ => rfl) (rfl))
  · have h16a := of_decide_eq_false h16
    refine zg_bipush hX dX9_play_19 21 rfl (by decide) ?_
    exact zg_iret hX hR (Nat.le_refl _) (Nat.le_refl _) rfl dX9_play_21 (qC_ret (by unfold o_play; rw [if_neg (by omega)]) h)
-- QuartetNods.again
set_option maxRecDepth 20000 in
theorem c_X9_again (l : Launch) (D : va_G) (cI : ClassId) (q : Nat → Nat) (f : Nat → Int) (r : Nat → Nat → Int) (σ : Sg) (B : Nat)  (hσ : sOK σ B) (hB : B ≤ 100) (h : CRel f r σ) : Cn l D cI yX9_again cX9_again 2 (some .int) 0 0 0 [.ref (q 0)] (cW cI q f r) (qC cI q (o_again σ)) := by
  refine Cn.of [(0, .ref (q 0))] (by decide +kernel) (Nat.le_of_ble_eq_true rfl) rfl (fun X hX hR => ?_)
  have hsl := hσ.1
  have hg6 := hσ.2.1
  have hP := hσ.2.2.1
  have hE := hσ.2.2.2.1
  have hpb6 := hP.1
  have hpL9 := hP.2.1
  have hn4 := hE.1
  have hT6 := hE.2.2.2.2.1
  have hep := hE.2.2.2.2.2.2.2
  have hbk := hE.2.2.2.2.2.2.1
  have hs1 := hσ.2.2.2.2.2.1
  have hs2 := hσ.2.2.2.2.2.2.1
  have hs3 := hσ.2.2.2.2.2.2.2.1
  have hbd := hσ.2.2.2.2.2.2.2.2.1
  have hρ : RuOK (sr σ) := rho_OK hP hE
  have hc : cR f r (sr σ) := cR_of h.2.1 h.2.2.1
  have ht : tk (sr σ) (st σ) := rho_tk hE
  have hrb : rb (sr σ) = pb (sP σ) := rfl
  have hrn : rn (sr σ) = en (sE σ) := rfl
  have hrl : rl (sr σ) = pL (sP σ) := rfl
  refine zg_aload_n hX 0 rfl dX9_again_0 rfl 1 rfl ?_
  refine cg_0_1 hX mw_250 dX9_again_1 4 rfl ?_
  refine cg_3_2 hX mw_60 (pb (sP σ) : Int) h.2.1.1 dX9_again_4 7 rfl ?_
  refine zg_if_ne hX (by omega) dX9_again_7 13 (by decide) 10 rfl (fun h7 => ?_) (fun h7 => ?_)
  · refine zg_aload_n hX 0 rfl dX9_again_13 rfl 14 rfl ?_
    refine cg_0_2 hX mw_251 dX9_again_14 17 rfl ?_
    refine cg_6_10 hX mw_106 (ep (sE σ) : Int) h.2.2.1.2.2.2.2.2.1 dX9_again_17 20 rfl ?_
    refine zg_istore_n hX [(1, .int (zI (ep (sE σ) : Int))), (0, .ref (q 0))] dX9_again_20 rfl (by decide) rfl 21 rfl ?_
    refine zg_aload_n hX 1 rfl dX9_again_21 rfl 22 rfl ?_
    refine cg_0_2 hX mw_251 dX9_again_22 25 rfl ?_
    refine zg_iconst hX dX9_again_25 26 rfl ?_
    refine cp_6_10 hX mw_106 dX9_again_26 29 rfl ?_
    refine zg_iload_n hX 0 rfl dX9_again_29 rfl 30 rfl ?_
    exact zg_iret hX hR (Nat.le_refl _) (Nat.le_refl _) rfl dX9_again_30 (qC_ret (by unfold o_again; rw [if_neg (by omega)]) (again_rel h))
  · refine zg_bipush hX dX9_again_10 12 rfl (by decide) ?_
    exact zg_iret hX hR (Nat.le_refl _) (Nat.le_refl _) rfl dX9_again_12 (qC_ret (by unfold o_again; rw [if_pos (by omega)]) h)
-- QuartetNods.hearing
set_option maxRecDepth 20000 in
theorem c_X9_hearing (l : Launch) (D : va_G) (cI : ClassId) (q : Nat → Nat) (f : Nat → Int) (r : Nat → Nat → Int) (σ : Sg) (B : Nat) (a : Int) (hσ : sOK σ B) (hB : B ≤ 100) (h : CRel f r σ) (ha : -2147483648 ≤ a ∧ a < 2147483648) : Cn l D cI yX9_hearing cX9_hearing 2 (some .int) 4 0 0 [.ref (q 0), .int (zI a)] (cW cI q f r) (qC cI q (o_hearing σ a)) := by
  refine Cn.of [(0, .ref (q 0)), (1, .int (zI a))] (by decide +kernel) (Nat.le_of_ble_eq_true rfl) rfl (fun X hX hR => ?_)
  have hsl := hσ.1
  have hg6 := hσ.2.1
  have hP := hσ.2.2.1
  have hE := hσ.2.2.2.1
  have hpb6 := hP.1
  have hpL9 := hP.2.1
  have hn4 := hE.1
  have hT6 := hE.2.2.2.2.1
  have hep := hE.2.2.2.2.2.2.2
  have hbk := hE.2.2.2.2.2.2.1
  have hs1 := hσ.2.2.2.2.2.1
  have hs2 := hσ.2.2.2.2.2.2.1
  have hs3 := hσ.2.2.2.2.2.2.2.1
  have hbd := hσ.2.2.2.2.2.2.2.2.1
  have hρ : RuOK (sr σ) := rho_OK hP hE
  have hc : cR f r (sr σ) := cR_of h.2.1 h.2.2.1
  have ht : tk (sr σ) (st σ) := rho_tk hE
  have hrb : rb (sr σ) = pb (sP σ) := rfl
  have hrn : rn (sr σ) = en (sE σ) := rfl
  have hrl : rl (sr σ) = pL (sP σ) := rfl
  refine zg_iload_n hX 1 rfl dX9_hearing_0 rfl 1 rfl ?_
  refine zg_if_lt hX (by omega) dX9_hearing_1 9 (by decide) 4 rfl (fun h1 => ?_) (fun h1 => ?_)
  · refine zg_bipush hX dX9_hearing_9 11 rfl (by decide) ?_
    exact zg_iret hX hR (Nat.le_refl _) (Nat.le_refl _) rfl dX9_hearing_11 (qC_ret (by unfold o_hearing; rw [if_neg (by omega)]) h)
  · refine zg_iload_n hX 1 rfl dX9_hearing_4 rfl 5 rfl ?_
    refine zg_iconst hX dX9_hearing_5 6 rfl ?_
    refine zg_icmp_le hX (by omega) (by omega) dX9_hearing_6 12 (by decide) 9 rfl (fun h6 => ?_) (fun h6 => ?_)
    · refine zg_aload_n hX 0 rfl dX9_hearing_12 rfl 13 rfl ?_
      refine cg_0_1 hX mw_250 dX9_hearing_13 16 rfl ?_
      refine cg_3_2 hX mw_60 (pb (sP σ) : Int) h.2.1.1 dX9_hearing_16 19 rfl ?_
      refine zg_if_ne hX (by omega) dX9_hearing_19 25 (by decide) 22 rfl (fun h19 => ?_) (fun h19 => ?_)
      · refine zg_iload_n hX 1 rfl dX9_hearing_25 rfl 26 rfl ?_
        refine zg_aload_n hX 0 rfl dX9_hearing_26 rfl 27 rfl ?_
        refine cg_0_4 hX mw_253 dX9_hearing_27 30 rfl ?_
        refine zg_aload_n hX 0 rfl dX9_hearing_30 rfl 31 rfl ?_
        refine cg_0_2 hX mw_251 dX9_hearing_31 34 rfl ?_
        refine cg_6_7 hX mw_100 (n6 (st σ)) h.2.2.1.2.2.1 dX9_hearing_34 37 rfl ?_
        refine zg_callVi (As := [.int (zI (n6 (st σ)))]) (rest := [.int (zI a)]) (k0 := 18) (ci := 2) hX (c_X2_lossesFrom l D cI q f r (sr σ) (st σ) hρ hc ht) mw_350 mw_351 mw_352 mw_5 mw_353 sg_X2_lossesFrom (by decide) (by decide) (Nat.le_refl _) (Nat.le_refl _) rfl rfl rfl (Nat.le_of_ble_eq_true rfl) dX9_hearing_37 40 rfl ?_
        refine zg_callSi (As := [.int (zI a), .int (zI (n6 (lsv (sr σ) (st σ) (rb (sr σ)))))]) (rest := []) hX (c_X9_ofHearing l D cI _ a (lsv (sr σ) (st σ) (rb (sr σ))) (by omega) (lsv_16 _ hρ _)) mw_466 mw_467 mw_1 mw_468 sg_X9_ofHearing.2 (by decide) (by decide) (Nat.le_refl _) (Nat.le_refl _) rfl (Nat.le_of_ble_eq_true rfl) dX9_hearing_40 43 rfl ?_
        exact zg_iret hX hR (Nat.le_refl _) (Nat.le_refl _) rfl dX9_hearing_43 (qC_ret (by unfold o_hearing hear0 hear1; rw [if_pos (by omega), if_neg (by omega), lsv_su _ _ _ (by omega), lsv_fz _ (by omega)]; rfl) h)
      · refine zg_bipush hX dX9_hearing_22 24 rfl (by decide) ?_
        exact zg_iret hX hR (Nat.le_refl _) (Nat.le_refl _) rfl dX9_hearing_24 (qC_ret (by unfold o_hearing; rw [if_pos (by omega), if_pos (by omega)]) h)
    · refine zg_bipush hX dX9_hearing_9 11 rfl (by decide) ?_
      exact zg_iret hX hR (Nat.le_refl _) (Nat.le_refl _) rfl dX9_hearing_11 (qC_ret (by unfold o_hearing; rw [if_neg (by omega)]) h)
-- QuartetNods.cups
set_option maxRecDepth 20000 in
theorem c_X9_cups (l : Launch) (D : va_G) (cI : ClassId) (q : Nat → Nat) (f : Nat → Int) (r : Nat → Nat → Int) (σ : Sg) (B : Nat) (a : Int) (hσ : sOK σ B) (hB : B ≤ 100) (h : CRel f r σ) (ha : -2147483648 ≤ a ∧ a < 2147483648) : Cn l D cI yX9_cups cX9_cups 2 (some .int) 17 0 0 [.ref (q 0), .int (zI a)] (cW cI q f r) (qC cI q (o_cups σ a)) := by
  refine Cn.of [(0, .ref (q 0)), (1, .int (zI a))] (by decide +kernel) (Nat.le_of_ble_eq_true rfl) rfl (fun X hX hR => ?_)
  have hsl := hσ.1
  have hg6 := hσ.2.1
  have hP := hσ.2.2.1
  have hE := hσ.2.2.2.1
  have hpb6 := hP.1
  have hpL9 := hP.2.1
  have hn4 := hE.1
  have hT6 := hE.2.2.2.2.1
  have hep := hE.2.2.2.2.2.2.2
  have hbk := hE.2.2.2.2.2.2.1
  have hs1 := hσ.2.2.2.2.2.1
  have hs2 := hσ.2.2.2.2.2.2.1
  have hs3 := hσ.2.2.2.2.2.2.2.1
  have hbd := hσ.2.2.2.2.2.2.2.2.1
  have hρ : RuOK (sr σ) := rho_OK hP hE
  have hc : cR f r (sr σ) := cR_of h.2.1 h.2.2.1
  have ht : tk (sr σ) (st σ) := rho_tk hE
  have hrb : rb (sr σ) = pb (sP σ) := rfl
  have hrn : rn (sr σ) = en (sE σ) := rfl
  have hrl : rl (sr σ) = pL (sP σ) := rfl
  refine zg_iload_n hX 1 rfl dX9_cups_0 rfl 1 rfl ?_
  refine zg_callSi (As := [.int (zI a)]) (rest := []) hX (c_X9_isOfRow l D cI _ a ha) mw_476 mw_477 mw_1 mw_478 sg_X9_isOfRow.2 (by decide) (by decide) (Nat.le_refl _) (Nat.le_refl _) rfl (Nat.le_of_ble_eq_true rfl) dX9_cups_1 4 rfl ?_
  refine zg_ifb_ne hX dX9_cups_4 10 (by decide) 7 rfl (fun h4 => ?_) (fun h4 => ?_)
  · have h4a := of_decide_eq_true h4
    refine zg_aload_n hX 0 rfl dX9_cups_10 rfl 11 rfl ?_
    refine cg_0_1 hX mw_250 dX9_cups_11 14 rfl ?_
    refine cg_3_2 hX mw_60 (pb (sP σ) : Int) h.2.1.1 dX9_cups_14 17 rfl ?_
    refine zg_if_eq hX (by omega) dX9_cups_17 29 (by decide) 20 rfl (fun h17 => ?_) (fun h17 => ?_)
    · refine zg_bipush hX dX9_cups_29 31 rfl (by decide) ?_
      exact zg_iret hX hR (Nat.le_refl _) (Nat.le_refl _) rfl dX9_cups_31 (qC_ret (by unfold o_cups; rw [if_pos h4a, if_pos (by omega)]) h)
    · refine zg_aload_n hX 0 rfl dX9_cups_20 rfl 21 rfl ?_
      refine cg_0_11 hX mw_260 (s2 σ : Int) h.2.2.2.2.2.2.1 dX9_cups_21 24 rfl ?_
      refine zg_bipush hX dX9_cups_24 26 rfl (by decide) ?_
      refine zg_icmp_lt hX (by omega) (by omega) dX9_cups_26 32 (by decide) 29 rfl (fun h26 => ?_) (fun h26 => ?_)
      · refine zg_aload_n hX 0 rfl dX9_cups_32 rfl 33 rfl ?_
        refine zg_dup hX rfl dX9_cups_33 34 rfl ?_
        refine cg_0_11 hX mw_260 (s2 σ : Int) h.2.2.2.2.2.2.1 dX9_cups_34 37 rfl ?_
        refine zg_iconst hX dX9_cups_37 38 rfl ?_
        refine zg_iadd hX dX9_cups_38 39 rfl ?_
        refine cp_0_11 hX mw_260 dX9_cups_39 42 rfl ?_
        refine zg_aload_n hX 0 rfl dX9_cups_42 rfl 43 rfl ?_
        refine cg_0_5 hX mw_254 dX9_cups_43 46 rfl ?_
        refine zg_callV (As := []) (rest := []) (k0 := 19) (ci := 0) hX (c_X0_run l D cI q (pu f 25 ((s2 σ : Int) + 1)) r (sr σ) (st σ) hρ hc ht h.2.2.1.2.2.1) mw_479 mw_480 mw_481 mw_6 mw_482 sg_X0_run (by decide) (by decide) (Nat.le_refl _) (Nat.le_refl _) rfl rfl rfl (Nat.le_of_ble_eq_true rfl) dX9_cups_46 49 rfl (fun v46 W46 hp46 => ?_)
        obtain ⟨F46, R46, rfl, rfl, hfr, -, g17, gz⟩ := hp46
        show G X 2 0 0 (cW cI q F46 R46) [(0, .ref (q 0)), (1, .int (zI a))] 49 []
        have hrel : CRel F46 R46 (withC σ (s2 σ + 1) (s3 σ)) := CRel_fr (cups_rel h) hfr
        have hz7 : (cupR σ).1 ≤ 7 := cupF_7 (by decide)
        have hg : CRel F46 R46 (withC σ (s2 σ + 1) (s3 σ)) := hrel
        refine zg_iload_n hX 1 rfl dX9_cups_49 rfl 50 rfl ?_
        refine zg_if_ne hX (by omega) dX9_cups_50 63 (by decide) 53 rfl (fun h50 => ?_) (fun h50 => ?_)
        · refine zg_aload_n hX 0 rfl dX9_cups_63 rfl 64 rfl ?_
          refine cg_0_5 hX mw_254 dX9_cups_64 67 rfl ?_
          refine zg_iload_n hX 1 rfl dX9_cups_67 rfl 68 rfl ?_
          refine zg_bipush hX dX9_cups_68 70 rfl (by decide) ?_
          refine zg_isub hX dX9_cups_70 71 rfl ?_
          have e71 : (a - 10 : Int) = ((a - 10).toNat : Int) := by omega
          refine zg_to (lv2 := [(0, .ref (q 0)), (1, .int (zI a))]) (ws2 := (cW cI q F46 R46)) (st2 := [.int (zI ((a - 10).toNat : Int)), .ref (q 19)]) ?_ rfl rfl (by first | (rw [e71]; done) | (rw [← e71]; done))
          refine zg_callVi (As := [.int (zI ((a - 10).toNat : Int))]) (rest := []) (k0 := 19) (ci := 0) hX (c_X0_whomAheadOf l D cI q F46 R46 (cupR σ).1 (pb (sP σ)) (a - 10).toNat (cupR σ).2 g17 hz7 hrel.2.1.1 hpb6 (by omega) gz) mw_504 mw_505 mw_506 mw_6 mw_507 sg_X0_whomAheadOf (by decide) (by decide) (Nat.le_refl _) (Nat.le_refl _) rfl rfl rfl (Nat.le_of_ble_eq_true rfl) dX9_cups_71 74 rfl ?_
          exact zg_iret hX hR (Nat.le_refl _) (Nat.le_refl _) rfl dX9_cups_74 (qC_ret (by
              unfold o_cups; rw [if_pos h4a, if_neg (by omega)]
              congr 1
              unfold cupA
              first | rw [if_pos (show a = 0 by omega)] | (rw [if_neg (show ¬ a = 0 by omega)]; split; rfl; split <;> split <;> first | rfl | omega)) hg)
        · refine zg_aload_n hX 0 rfl dX9_cups_53 rfl 54 rfl ?_
          refine cg_0_5 hX mw_254 dX9_cups_54 57 rfl ?_
          refine zg_callVi (As := []) (rest := []) (k0 := 19) (ci := 0) hX (c_X0_fewest l D cI q F46 R46 (cupR σ).1 g17 hz7) mw_500 mw_501 mw_502 mw_6 mw_503 sg_X0_fewest (by decide) (by decide) (Nat.le_refl _) (Nat.le_refl _) rfl rfl rfl (Nat.le_of_ble_eq_true rfl) dX9_cups_57 60 rfl ?_
          refine zg_goto hX dX9_cups_60 74 (by decide) ?_
          exact zg_iret hX hR (Nat.le_refl _) (Nat.le_refl _) rfl dX9_cups_74 (qC_ret (by
              unfold o_cups; rw [if_pos h4a, if_neg (by omega)]
              congr 1
              unfold cupA
              first | rw [if_pos (show a = 0 by omega)] | (rw [if_neg (show ¬ a = 0 by omega)]; split; rfl; split <;> split <;> first | rfl | omega)) hg)
      · refine zg_bipush hX dX9_cups_29 31 rfl (by decide) ?_
        exact zg_iret hX hR (Nat.le_refl _) (Nat.le_refl _) rfl dX9_cups_31 (qC_ret (by unfold o_cups; rw [if_pos h4a, if_pos (by omega)]) h)
  · have h4a := of_decide_eq_false h4
    refine zg_bipush hX dX9_cups_7 9 rfl (by decide) ?_
    exact zg_iret hX hR (Nat.le_refl _) (Nat.le_refl _) rfl dX9_cups_9 (qC_ret (by unfold o_cups; rw [if_neg h4a]) h)
-- QuartetNods.order
set_option maxRecDepth 20000 in
theorem c_X9_order (l : Launch) (D : va_G) (cI : ClassId) (q : Nat → Nat) (f : Nat → Int) (r : Nat → Nat → Int) (σ : Sg) (B : Nat) (a : Int) (hσ : sOK σ B) (hB : B ≤ 100) (h : CRel f r σ) (ha : -2147483648 ≤ a ∧ a < 2147483648) : Cn l D cI yX9_order cX9_order 2 (some .int) 11 0 0 [.ref (q 0), .int (zI a)] (cW cI q f r) (qC cI q (o_order σ a)) := by
  refine Cn.of [(0, .ref (q 0)), (1, .int (zI a))] (by decide +kernel) (Nat.le_of_ble_eq_true rfl) rfl (fun X hX hR => ?_)
  have hsl := hσ.1
  have hg6 := hσ.2.1
  have hP := hσ.2.2.1
  have hE := hσ.2.2.2.1
  have hpb6 := hP.1
  have hpL9 := hP.2.1
  have hn4 := hE.1
  have hT6 := hE.2.2.2.2.1
  have hep := hE.2.2.2.2.2.2.2
  have hbk := hE.2.2.2.2.2.2.1
  have hs1 := hσ.2.2.2.2.2.1
  have hs2 := hσ.2.2.2.2.2.2.1
  have hs3 := hσ.2.2.2.2.2.2.2.1
  have hbd := hσ.2.2.2.2.2.2.2.2.1
  have hρ : RuOK (sr σ) := rho_OK hP hE
  have hc : cR f r (sr σ) := cR_of h.2.1 h.2.2.1
  have ht : tk (sr σ) (st σ) := rho_tk hE
  have hrb : rb (sr σ) = pb (sP σ) := rfl
  have hrn : rn (sr σ) = en (sE σ) := rfl
  have hrl : rl (sr σ) = pL (sP σ) := rfl
  refine zg_iload_n hX 1 rfl dX9_order_0 rfl 1 rfl ?_
  refine zg_callSi (As := [.int (zI a)]) (rest := []) hX (c_X9_isOfRow l D cI _ a ha) mw_476 mw_477 mw_1 mw_478 sg_X9_isOfRow.2 (by decide) (by decide) (Nat.le_refl _) (Nat.le_refl _) rfl (Nat.le_of_ble_eq_true rfl) dX9_order_1 4 rfl ?_
  refine zg_ifb_ne hX dX9_order_4 10 (by decide) 7 rfl (fun h4 => ?_) (fun h4 => ?_)
  · have h4a := of_decide_eq_true h4
    refine zg_aload_n hX 0 rfl dX9_order_10 rfl 11 rfl ?_
    refine cg_0_1 hX mw_250 dX9_order_11 14 rfl ?_
    refine cg_3_2 hX mw_60 (pb (sP σ) : Int) h.2.1.1 dX9_order_14 17 rfl ?_
    refine zg_if_eq hX (by omega) dX9_order_17 29 (by decide) 20 rfl (fun h17 => ?_) (fun h17 => ?_)
    · refine zg_bipush hX dX9_order_29 31 rfl (by decide) ?_
      exact zg_iret hX hR (Nat.le_refl _) (Nat.le_refl _) rfl dX9_order_31 (qC_ret (by unfold o_order; rw [if_pos h4a, if_pos (by omega)]) h)
    · refine zg_aload_n hX 0 rfl dX9_order_20 rfl 21 rfl ?_
      refine cg_0_12 hX mw_261 (s3 σ : Int) h.2.2.2.2.2.2.2 dX9_order_21 24 rfl ?_
      refine zg_bipush hX dX9_order_24 26 rfl (by decide) ?_
      refine zg_icmp_lt hX (by omega) (by omega) dX9_order_26 32 (by decide) 29 rfl (fun h26 => ?_) (fun h26 => ?_)
      · refine zg_aload_n hX 0 rfl dX9_order_32 rfl 33 rfl ?_
        refine zg_dup hX rfl dX9_order_33 34 rfl ?_
        refine cg_0_12 hX mw_261 (s3 σ : Int) h.2.2.2.2.2.2.2 dX9_order_34 37 rfl ?_
        refine zg_iconst hX dX9_order_37 38 rfl ?_
        refine zg_iadd hX dX9_order_38 39 rfl ?_
        refine cp_0_12 hX mw_261 dX9_order_39 42 rfl ?_
        refine zg_aload_n hX 0 rfl dX9_order_42 rfl 43 rfl ?_
        refine cg_0_6 hX mw_255 dX9_order_43 46 rfl ?_
        refine zg_aload_n hX 0 rfl dX9_order_46 rfl 47 rfl ?_
        refine cg_0_2 hX mw_251 dX9_order_47 50 rfl ?_
        refine cg_6_7 hX mw_100 (n6 (st σ)) h.2.2.1.2.2.1 dX9_order_50 53 rfl ?_
        refine zg_callV (As := [.int (zI (n6 (st σ)))]) (rest := []) (k0 := 22) (ci := 5) hX (c_X6_run l D cI q (pu f 26 ((s3 σ : Int) + 1)) r (sr σ) (st σ) hρ hc ht) mw_512 mw_513 mw_514 mw_7 mw_515 sg_X6_run (by decide) (by decide) (Nat.le_refl _) (Nat.le_refl _) rfl rfl rfl (Nat.le_of_ble_eq_true rfl) dX9_order_53 56 rfl (fun v53 W53 hp53 => ?_)
        obtain ⟨F53, R53, rfl, rfl, hfr, -, g18, gz⟩ := hp53
        show G X 2 0 0 (cW cI q F53 R53) [(0, .ref (q 0)), (1, .int (zI a))] 56 []
        have hrel : CRel F53 R53 (withC σ (s2 σ) (s3 σ + 1)) := CRel_fr (order_rel h) hfr
        have hz24 : (ordR σ).1 ≤ 24 := ordR_24 hρ
        refine zg_iload_n hX 1 rfl dX9_order_56 rfl 57 rfl ?_
        refine zg_if_ne hX (by omega) dX9_order_57 70 (by decide) 60 rfl (fun h57 => ?_) (fun h57 => ?_)
        · refine zg_aload_n hX 0 rfl dX9_order_70 rfl 71 rfl ?_
          refine cg_0_6 hX mw_255 dX9_order_71 74 rfl ?_
          refine zg_iload_n hX 1 rfl dX9_order_74 rfl 75 rfl ?_
          refine zg_bipush hX dX9_order_75 77 rfl (by decide) ?_
          refine zg_isub hX dX9_order_77 78 rfl ?_
          have e78 : (a - 10 : Int) = ((a - 10).toNat : Int) := by omega
          refine zg_to (lv2 := [(0, .ref (q 0)), (1, .int (zI a))]) (ws2 := (cW cI q F53 R53)) (st2 := [.int (zI ((a - 10).toNat : Int)), .ref (q 22)]) ?_ rfl rfl (by first | (rw [e78]; done) | (rw [← e78]; done))
          refine zg_callVi (As := [.int (zI ((a - 10).toNat : Int))]) (rest := []) (k0 := 22) (ci := 5) hX (c_X6_barAt l D cI q F53 R53 (ordR σ).1 (pb (sP σ)) (a - 10).toNat (ordR σ).2 hz24 hrel.2.1.1 hpb6 (by omega) gz) mw_525 mw_526 mw_527 mw_7 mw_528 sg_X6_barAt (by decide) (by decide) (Nat.le_refl _) (Nat.le_refl _) rfl rfl rfl (Nat.le_of_ble_eq_true rfl) dX9_order_78 81 rfl ?_
          exact zg_iret hX hR (Nat.le_refl _) (Nat.le_refl _) rfl dX9_order_81 (qC_ret (by
              unfold o_order; rw [if_pos h4a, if_neg (by omega)]
              congr 1
              unfold ordA
              first | rw [if_pos (show a = 0 by omega)] | (rw [if_neg (show ¬ a = 0 by omega)]; split <;> split <;> first | rfl | omega)) hrel)
        · refine zg_aload_n hX 0 rfl dX9_order_60 rfl 61 rfl ?_
          refine cg_0_6 hX mw_255 dX9_order_61 64 rfl ?_
          refine cg_22_4 hX mw_183 ((ordR σ).1 : Int) g18 dX9_order_64 67 rfl ?_
          refine zg_goto hX dX9_order_67 81 (by decide) ?_
          exact zg_iret hX hR (Nat.le_refl _) (Nat.le_refl _) rfl dX9_order_81 (qC_ret (by
              unfold o_order; rw [if_pos h4a, if_neg (by omega)]
              congr 1
              unfold ordA
              first | rw [if_pos (show a = 0 by omega)] | (rw [if_neg (show ¬ a = 0 by omega)]; split <;> split <;> first | rfl | omega)) hrel)
      · refine zg_bipush hX dX9_order_29 31 rfl (by decide) ?_
        exact zg_iret hX hR (Nat.le_refl _) (Nat.le_refl _) rfl dX9_order_31 (qC_ret (by unfold o_order; rw [if_pos h4a, if_pos (by omega)]) h)
  · have h4a := of_decide_eq_false h4
    refine zg_bipush hX dX9_order_7 9 rfl (by decide) ?_
    exact zg_iret hX hR (Nat.le_refl _) (Nat.le_refl _) rfl dX9_order_9 (qC_ret (by unfold o_order; rw [if_neg h4a]) h)
-- QuartetNods.tell
set_option maxRecDepth 20000 in
theorem c_X9_tell (l : Launch) (D : va_G) (cI : ClassId) (q : Nat → Nat) (f : Nat → Int) (r : Nat → Nat → Int) (σ : Sg) (B : Nat) (a b : Int) (hσ : sOK σ B) (hB : B ≤ 100) (h : CRel f r σ) (ha : -2147483648 ≤ a ∧ a < 2147483648) (hb : -2147483648 ≤ b ∧ b < 2147483648) : Cn l D cI yX9_tell cX9_tell 3 (some .int) 1 0 0 [.ref (q 0), .int (zI a), .int (zI b)] (cW cI q f r) (qC cI q (o_tell σ a b)) := by
  refine Cn.of [(0, .ref (q 0)), (1, .int (zI a)), (2, .int (zI b))] (by decide +kernel) (Nat.le_of_ble_eq_true rfl) rfl (fun X hX hR => ?_)
  have hsl := hσ.1
  have hg6 := hσ.2.1
  have hP := hσ.2.2.1
  have hE := hσ.2.2.2.1
  have hpb6 := hP.1
  have hpL9 := hP.2.1
  have hn4 := hE.1
  have hT6 := hE.2.2.2.2.1
  have hep := hE.2.2.2.2.2.2.2
  have hbk := hE.2.2.2.2.2.2.1
  have hs1 := hσ.2.2.2.2.2.1
  have hs2 := hσ.2.2.2.2.2.2.1
  have hs3 := hσ.2.2.2.2.2.2.2.1
  have hbd := hσ.2.2.2.2.2.2.2.2.1
  have hρ : RuOK (sr σ) := rho_OK hP hE
  have hc : cR f r (sr σ) := cR_of h.2.1 h.2.2.1
  have ht : tk (sr σ) (st σ) := rho_tk hE
  have hrb : rb (sr σ) = pb (sP σ) := rfl
  have hrn : rn (sr σ) = en (sE σ) := rfl
  have hrl : rl (sr σ) = pL (sP σ) := rfl
  refine zg_aload_n hX 0 rfl dX9_tell_0 rfl 1 rfl ?_
  refine cg_0_1 hX mw_250 dX9_tell_1 4 rfl ?_
  refine zg_iload_n hX 1 rfl dX9_tell_4 rfl 5 rfl ?_
  refine zg_callVi (As := [.int (zI a)]) (rest := []) (k0 := 3) (ci := 7) hX (c_X8_has l D cI q f r (pb (sP σ)) a h.2.1.1 (by omega) ha) mw_346 mw_347 mw_348 mw_3 mw_349 sg_X8_has (by decide) (by decide) (Nat.le_refl _) (Nat.le_refl _) rfl rfl rfl (Nat.le_of_ble_eq_true rfl) dX9_tell_5 8 rfl ?_
  refine zg_ifb_ne hX dX9_tell_8 14 (by decide) 11 rfl (fun h8 => ?_) (fun h8 => ?_)
  · have h8a := of_decide_eq_true h8
    refine zg_iload_n hX 2 rfl dX9_tell_14 rfl 15 rfl ?_
    refine zg_if_lt hX (by omega) dX9_tell_15 23 (by decide) 18 rfl (fun h15 => ?_) (fun h15 => ?_)
    · refine zg_bipush hX dX9_tell_23 25 rfl (by decide) ?_
      exact zg_iret hX hR (Nat.le_refl _) (Nat.le_refl _) rfl dX9_tell_25 (qC_ret (by unfold o_tell; rw [if_pos h8a, if_neg (by omega)]) h)
    · refine zg_iload_n hX 2 rfl dX9_tell_18 rfl 19 rfl ?_
      refine zg_iconst hX dX9_tell_19 20 rfl ?_
      refine zg_icmp_le hX (by omega) (by omega) dX9_tell_20 26 (by decide) 23 rfl (fun h20 => ?_) (fun h20 => ?_)
      · refine zg_aload_n hX 0 rfl dX9_tell_26 rfl 27 rfl ?_
        refine cg_0_2 hX mw_251 dX9_tell_27 30 rfl ?_
        refine cg_6_5 hX mw_90 (eT (sE σ) : Int) h.2.2.1.1 dX9_tell_30 33 rfl ?_
        refine zg_bipush hX dX9_tell_33 35 rfl (by decide) ?_
        refine zg_icmp_lt hX (by omega) (by omega) dX9_tell_35 41 (by decide) 38 rfl (fun h35 => ?_) (fun h35 => ?_)
        · have el41_1 : (a : Int) = (a.toNat : Int) := by omega
          refine zg_to (lv2 := [(0, .ref (q 0)), (1, .int (zI (a.toNat : Int))), (2, .int (zI b))]) (ws2 := (cW cI q f r)) (st2 := []) ?_ rfl (by rw [← el41_1]) rfl
          have el41_2 : (b : Int) = (b.toNat : Int) := by omega
          refine zg_to (lv2 := [(0, .ref (q 0)), (1, .int (zI (a.toNat : Int))), (2, .int (zI (b.toNat : Int)))]) (ws2 := (cW cI q f r)) (st2 := []) ?_ rfl (by rw [← el41_2]) rfl
          refine zg_aload_n hX 0 rfl dX9_tell_41 rfl 42 rfl ?_
          refine cg_0_2 hX mw_251 dX9_tell_42 45 rfl ?_
          refine zg_iload_n hX 1 rfl dX9_tell_45 rfl 46 rfl ?_
          refine zg_iload_n hX 2 rfl dX9_tell_46 rfl 47 rfl ?_
          refine zg_callV (As := [.int (zI (a.toNat : Int)), .int (zI (b.toNat : Int))]) (rest := []) (k0 := 6) (ci := 3) hX (c_X3_hear l D cI q f r (sE σ) a.toNat b.toNat h.2.2.1 (by omega)) mw_533 mw_534 mw_535 mw_4 mw_536 sg_X3_hear (by decide) (by decide) (Nat.le_refl _) (Nat.le_refl _) rfl rfl rfl (Nat.le_of_ble_eq_true rfl) dX9_tell_47 50 rfl (fun v47 W47 hp47 => ?_)
          obtain ⟨rfl, rfl⟩ := hp47
          show G X 3 0 0 (cW cI q (pu f 3 ((eT (sE σ) : Int) + 1)) (pu (pu r 6 (pu (r 6) (eT (sE σ)) (a.toNat : Int))) 7 (pu (r 7) (eT (sE σ)) (b.toNat : Int)))) [(0, .ref (q 0)), (1, .int (zI (a.toNat : Int))), (2, .int (zI (b.toNat : Int)))] 50 []
          refine zg_aload_n hX 0 rfl dX9_tell_50 rfl 51 rfl ?_
          refine cg_0_2 hX mw_251 dX9_tell_51 54 rfl ?_
          refine cg_6_5 hX mw_90 ((eT (sE σ) : Int) + 1) rfl dX9_tell_54 57 rfl ?_
          exact zg_iret hX hR (Nat.le_refl _) (Nat.le_refl _) rfl dX9_tell_57 (qC_ret (by unfold o_tell; rw [if_pos h8a, if_pos (by omega), if_neg (by omega)]) (tell_rel h))
        · refine zg_bipush hX dX9_tell_38 40 rfl (by decide) ?_
          exact zg_iret hX hR (Nat.le_refl _) (Nat.le_refl _) rfl dX9_tell_40 (qC_ret (by unfold o_tell; rw [if_pos h8a, if_pos (by omega), if_pos (by omega)]) h)
      · refine zg_bipush hX dX9_tell_23 25 rfl (by decide) ?_
        exact zg_iret hX hR (Nat.le_refl _) (Nat.le_refl _) rfl dX9_tell_25 (qC_ret (by unfold o_tell; rw [if_pos h8a, if_neg (by omega)]) h)
  · have h8a := of_decide_eq_false h8
    refine zg_bipush hX dX9_tell_11 13 rfl (by decide) ?_
    exact zg_iret hX hR (Nat.le_refl _) (Nat.le_refl _) rfl dX9_tell_13 (qC_ret (by unfold o_tell; rw [if_neg h8a]) h)
-- QuartetNods.forget
set_option maxRecDepth 20000 in
theorem c_X9_forget (l : Launch) (D : va_G) (cI : ClassId) (q : Nat → Nat) (f : Nat → Int) (r : Nat → Nat → Int) (σ : Sg) (B : Nat)  (hσ : sOK σ B) (hB : B ≤ 100) (h : CRel f r σ) : Cn l D cI yX9_forget cX9_forget 2 (some .int) 0 0 0 [.ref (q 0)] (cW cI q f r) (qC cI q (o_forget σ)) := by
  refine Cn.of [(0, .ref (q 0))] (by decide +kernel) (Nat.le_of_ble_eq_true rfl) rfl (fun X hX hR => ?_)
  have hsl := hσ.1
  have hg6 := hσ.2.1
  have hP := hσ.2.2.1
  have hE := hσ.2.2.2.1
  have hpb6 := hP.1
  have hpL9 := hP.2.1
  have hn4 := hE.1
  have hT6 := hE.2.2.2.2.1
  have hep := hE.2.2.2.2.2.2.2
  have hbk := hE.2.2.2.2.2.2.1
  have hs1 := hσ.2.2.2.2.2.1
  have hs2 := hσ.2.2.2.2.2.2.1
  have hs3 := hσ.2.2.2.2.2.2.2.1
  have hbd := hσ.2.2.2.2.2.2.2.2.1
  have hρ : RuOK (sr σ) := rho_OK hP hE
  have hc : cR f r (sr σ) := cR_of h.2.1 h.2.2.1
  have ht : tk (sr σ) (st σ) := rho_tk hE
  have hrb : rb (sr σ) = pb (sP σ) := rfl
  have hrn : rn (sr σ) = en (sE σ) := rfl
  have hrl : rl (sr σ) = pL (sP σ) := rfl
  refine zg_aload_n hX 0 rfl dX9_forget_0 rfl 1 rfl ?_
  refine cg_0_2 hX mw_251 dX9_forget_1 4 rfl ?_
  refine cg_6_5 hX mw_90 (eT (sE σ) : Int) h.2.2.1.1 dX9_forget_4 7 rfl ?_
  refine zg_istore_n hX [(1, .int (zI (eT (sE σ) : Int))), (0, .ref (q 0))] dX9_forget_7 rfl (by decide) rfl 8 rfl ?_
  refine zg_aload_n hX 1 rfl dX9_forget_8 rfl 9 rfl ?_
  refine cg_0_2 hX mw_251 dX9_forget_9 12 rfl ?_
  refine zg_iconst hX dX9_forget_12 13 rfl ?_
  refine cp_6_5 hX mw_90 dX9_forget_13 16 rfl ?_
  refine zg_iload_n hX 0 rfl dX9_forget_16 rfl 17 rfl ?_
  exact zg_iret hX hR (Nat.le_refl _) (Nat.le_refl _) rfl dX9_forget_17 (qC_ret rfl (forget_rel h))
-- QuartetNods.guess
set_option maxRecDepth 20000 in
theorem c_X9_guess (l : Launch) (D : va_G) (cI : ClassId) (q : Nat → Nat) (f : Nat → Int) (r : Nat → Nat → Int) (σ : Sg) (B : Nat) (a : Int) (hσ : sOK σ B) (hB : B ≤ 100) (h : CRel f r σ) (ha : -2147483648 ≤ a ∧ a < 2147483648) : Cn l D cI yX9_guess cX9_guess 2 (some .int) 5 0 0 [.ref (q 0), .int (zI a)] (cW cI q f r) (qC cI q (o_guess σ a)) := by
  refine Cn.of [(0, .ref (q 0)), (1, .int (zI a))] (by decide +kernel) (Nat.le_of_ble_eq_true rfl) rfl (fun X hX hR => ?_)
  have hsl := hσ.1
  have hg6 := hσ.2.1
  have hP := hσ.2.2.1
  have hE := hσ.2.2.2.1
  have hpb6 := hP.1
  have hpL9 := hP.2.1
  have hn4 := hE.1
  have hT6 := hE.2.2.2.2.1
  have hep := hE.2.2.2.2.2.2.2
  have hbk := hE.2.2.2.2.2.2.1
  have hs1 := hσ.2.2.2.2.2.1
  have hs2 := hσ.2.2.2.2.2.2.1
  have hs3 := hσ.2.2.2.2.2.2.2.1
  have hbd := hσ.2.2.2.2.2.2.2.2.1
  have hρ : RuOK (sr σ) := rho_OK hP hE
  have hc : cR f r (sr σ) := cR_of h.2.1 h.2.2.1
  have ht : tk (sr σ) (st σ) := rho_tk hE
  have hrb : rb (sr σ) = pb (sP σ) := rfl
  have hrn : rn (sr σ) = en (sE σ) := rfl
  have hrl : rl (sr σ) = pL (sP σ) := rfl
  refine zg_aload_n hX 0 rfl dX9_guess_0 rfl 1 rfl ?_
  refine cg_0_2 hX mw_251 dX9_guess_1 4 rfl ?_
  refine zg_iload_n hX 1 rfl dX9_guess_4 rfl 5 rfl ?_
  refine zg_callVi (As := [.int (zI a)]) (rest := []) (k0 := 6) (ci := 3) hX (c_X3_has l D cI q f r (en (sE σ)) a h.2.2.1.2.1 (by omega) ha) mw_417 mw_418 mw_419 mw_4 mw_420 sg_X3_has (by decide) (by decide) (Nat.le_refl _) (Nat.le_refl _) rfl rfl rfl (Nat.le_of_ble_eq_true rfl) dX9_guess_5 8 rfl ?_
  refine zg_ifb_ne hX dX9_guess_8 14 (by decide) 11 rfl (fun h8 => ?_) (fun h8 => ?_)
  · have h8a := of_decide_eq_true h8
    have el14_1 : (a : Int) = (a.toNat : Int) := by omega
    refine zg_to (lv2 := [(0, .ref (q 0)), (1, .int (zI (a.toNat : Int)))]) (ws2 := (cW cI q f r)) (st2 := []) ?_ rfl (by rw [← el14_1]) rfl
    refine zg_aload_n hX 0 rfl dX9_guess_14 rfl 15 rfl ?_
    refine cg_0_7 hX mw_256 dX9_guess_15 18 rfl ?_
    refine zg_iload_n hX 1 rfl dX9_guess_18 rfl 19 rfl ?_
    refine zg_callV (As := [.int (zI (a.toNat : Int))]) (rest := []) (k0 := 25) (ci := 4) hX (c_X4_study l D cI q f r (sP σ) (sE σ) a.toNat hP hE h.2.1 h.2.2.1 (by omega)) mw_545 mw_546 mw_547 mw_8 mw_548 sg_X4_study (by decide) (by decide) (Nat.le_refl _) (Nat.le_refl _) rfl rfl rfl (Nat.le_of_ble_eq_true rfl) dX9_guess_19 22 rfl (fun v19 W19 hp19 => ?_)
    obtain ⟨F19, R19, rfl, rfl, hfr, g19, g17⟩ := hp19
    show G X 2 0 0 (cW cI q F19 R19) [(0, .ref (q 0)), (1, .int (zI (a.toNat : Int)))] 22 []
    refine zg_aload_n hX 0 rfl dX9_guess_22 rfl 23 rfl ?_
    refine cg_0_7 hX mw_256 dX9_guess_23 26 rfl ?_
    refine cg_25_5 hX mw_207 (gss σ a.toNat) g19 dX9_guess_26 29 rfl ?_
    exact zg_iret hX hR (Nat.le_refl _) (Nat.le_refl _) rfl dX9_guess_29 (qC_ret (by unfold o_guess; rw [if_pos h8a]) (CRel_fr h hfr))
  · have h8a := of_decide_eq_false h8
    refine zg_bipush hX dX9_guess_11 13 rfl (by decide) ?_
    exact zg_iret hX hR (Nat.le_refl _) (Nat.le_refl _) rfl dX9_guess_13 (qC_ret (by unfold o_guess; rw [if_neg h8a]) h)
-- QuartetNods.listen
set_option maxRecDepth 20000 in
theorem c_X9_listen (l : Launch) (D : va_G) (cI : ClassId) (q : Nat → Nat) (f : Nat → Int) (r : Nat → Nat → Int) (σ : Sg) (B : Nat) (a : Int) (hσ : sOK σ B) (hB : B ≤ 100) (h : CRel f r σ) (ha : -2147483648 ≤ a ∧ a < 2147483648) : Cn l D cI yX9_listen cX9_listen 2 (some .int) 5 0 0 [.ref (q 0), .int (zI a)] (cW cI q f r) (qC cI q (o_listen σ a)) := by
  refine Cn.of [(0, .ref (q 0)), (1, .int (zI a))] (by decide +kernel) (Nat.le_of_ble_eq_true rfl) rfl (fun X hX hR => ?_)
  have hsl := hσ.1
  have hg6 := hσ.2.1
  have hP := hσ.2.2.1
  have hE := hσ.2.2.2.1
  have hpb6 := hP.1
  have hpL9 := hP.2.1
  have hn4 := hE.1
  have hT6 := hE.2.2.2.2.1
  have hep := hE.2.2.2.2.2.2.2
  have hbk := hE.2.2.2.2.2.2.1
  have hs1 := hσ.2.2.2.2.2.1
  have hs2 := hσ.2.2.2.2.2.2.1
  have hs3 := hσ.2.2.2.2.2.2.2.1
  have hbd := hσ.2.2.2.2.2.2.2.2.1
  have hρ : RuOK (sr σ) := rho_OK hP hE
  have hc : cR f r (sr σ) := cR_of h.2.1 h.2.2.1
  have ht : tk (sr σ) (st σ) := rho_tk hE
  have hrb : rb (sr σ) = pb (sP σ) := rfl
  have hrn : rn (sr σ) = en (sE σ) := rfl
  have hrl : rl (sr σ) = pL (sP σ) := rfl
  refine zg_aload_n hX 0 rfl dX9_listen_0 rfl 1 rfl ?_
  refine cg_0_2 hX mw_251 dX9_listen_1 4 rfl ?_
  refine zg_iload_n hX 1 rfl dX9_listen_4 rfl 5 rfl ?_
  refine zg_callVi (As := [.int (zI a)]) (rest := []) (k0 := 6) (ci := 3) hX (c_X3_has l D cI q f r (en (sE σ)) a h.2.2.1.2.1 (by omega) ha) mw_417 mw_418 mw_419 mw_4 mw_420 sg_X3_has (by decide) (by decide) (Nat.le_refl _) (Nat.le_refl _) rfl rfl rfl (Nat.le_of_ble_eq_true rfl) dX9_listen_5 8 rfl ?_
  refine zg_ifb_ne hX dX9_listen_8 14 (by decide) 11 rfl (fun h8 => ?_) (fun h8 => ?_)
  · have h8a := of_decide_eq_true h8
    have el14_1 : (a : Int) = (a.toNat : Int) := by omega
    refine zg_to (lv2 := [(0, .ref (q 0)), (1, .int (zI (a.toNat : Int)))]) (ws2 := (cW cI q f r)) (st2 := []) ?_ rfl (by rw [← el14_1]) rfl
    refine zg_aload_n hX 0 rfl dX9_listen_14 rfl 15 rfl ?_
    refine cg_0_7 hX mw_256 dX9_listen_15 18 rfl ?_
    refine zg_iload_n hX 1 rfl dX9_listen_18 rfl 19 rfl ?_
    refine zg_callV (As := [.int (zI (a.toNat : Int))]) (rest := []) (k0 := 25) (ci := 4) hX (c_X4_study l D cI q f r (sP σ) (sE σ) a.toNat hP hE h.2.1 h.2.2.1 (by omega)) mw_545 mw_546 mw_547 mw_8 mw_548 sg_X4_study (by decide) (by decide) (Nat.le_refl _) (Nat.le_refl _) rfl rfl rfl (Nat.le_of_ble_eq_true rfl) dX9_listen_19 22 rfl (fun v19 W19 hp19 => ?_)
    obtain ⟨F19, R19, rfl, rfl, hfr, g19, g17⟩ := hp19
    show G X 2 0 0 (cW cI q F19 R19) [(0, .ref (q 0)), (1, .int (zI (a.toNat : Int)))] 22 []
    refine zg_aload_n hX 0 rfl dX9_listen_22 rfl 23 rfl ?_
    refine cg_0_7 hX mw_256 dX9_listen_23 26 rfl ?_
    refine zg_callV (As := []) (rest := []) (k0 := 25) (ci := 4) hX (c_X4_bestBar l D cI q F19 R19 (gs σ a.toNat) (fun x => lsv (sr σ) (pu (st σ) a.toNat x) (pb (sP σ))) (pb (sP σ)) g19 g17 (fun x b => lsv_4 _ hρ _ b) ((hfr.1 1 (by omega)).trans h.2.1.1) hpb6) mw_560 mw_561 mw_562 mw_8 mw_563 sg_X4_bestBar (by decide) (by decide) (Nat.le_refl _) (Nat.le_refl _) rfl rfl rfl (Nat.le_of_ble_eq_true rfl) dX9_listen_26 29 rfl (fun v26 W26 hp26 => ?_)
    obtain ⟨R26, rfl, rfl, hf26⟩ := hp26
    show G X 2 0 0 (cW cI q F19 R26) [(0, .ref (q 0)), (1, .int (zI (a.toNat : Int)))] 29 [.int (zI (if mk (gs σ a.toNat) 10 = 0 then -1 else (bb (fun b => mx (fun v => cn (gs σ a.toNat) (fun x => lsv (sr σ) (pu (st σ) a.toNat x) (pb (sP σ)) b) v 10) 5) (pb (sP σ))).1))]
    have e29 : (if mk (gs σ a.toNat) 10 = 0 then -1 else (bb (fun b => mx (fun v => cn (gs σ a.toNat) (fun x => lsv (sr σ) (pu (st σ) a.toNat x) (pb (sP σ)) b) v 10) 5) (pb (sP σ))).1 : Int) = lis σ a.toNat := lis_eq σ a.toNat
    refine zg_to (lv2 := [(0, .ref (q 0)), (1, .int (zI (a.toNat : Int)))]) (ws2 := (cW cI q F19 R26)) (st2 := [.int (zI (lis σ a.toNat))]) ?_ rfl rfl (by first | (rw [e29]; done) | (rw [← e29]; done))
    exact zg_iret hX hR (Nat.le_refl _) (Nat.le_refl _) rfl dX9_listen_29 (qC_ret (by unfold o_listen; rw [if_pos h8a]) (CRel_fr h (hfr.tr ⟨fun _ _ => rfl, fun j hj => hf26 j (by omega)⟩)))
  · have h8a := of_decide_eq_false h8
    refine zg_bipush hX dX9_listen_11 13 rfl (by decide) ?_
    exact zg_iret hX hR (Nat.le_refl _) (Nat.le_refl _) rfl dX9_listen_13 (qC_ret (by unfold o_listen; rw [if_neg h8a]) h)
-- QuartetNods.draughts
set_option maxRecDepth 20000 in
theorem c_X9_draughts (l : Launch) (D : va_G) (cI : ClassId) (q : Nat → Nat) (f : Nat → Int) (r : Nat → Nat → Int) (σ : Sg) (B : Nat) (a b w : Int) (hσ : sOK σ B) (hB : B ≤ 100) (h : CRel f r σ) (ha : -2147483648 ≤ a ∧ a < 2147483648) (hb : -2147483648 ≤ b ∧ b < 2147483648) (hw : -2147483648 ≤ w ∧ w < 2147483648) : Cn l D cI yX9_draughts cX9_draughts 4 (some .int) 5 0 0 [.ref (q 0), .int (zI a), .int (zI b), .int (zI w)] (cW cI q f r) (qC cI q (o_draughts σ a b w)) := by
  refine Cn.of [(0, .ref (q 0)), (1, .int (zI a)), (2, .int (zI b)), (3, .int (zI w))] (by decide +kernel) (Nat.le_of_ble_eq_true rfl) rfl (fun X hX hR => ?_)
  have hsl := hσ.1
  have hg6 := hσ.2.1
  have hP := hσ.2.2.1
  have hE := hσ.2.2.2.1
  have hpb6 := hP.1
  have hpL9 := hP.2.1
  have hn4 := hE.1
  have hT6 := hE.2.2.2.2.1
  have hep := hE.2.2.2.2.2.2.2
  have hbk := hE.2.2.2.2.2.2.1
  have hs1 := hσ.2.2.2.2.2.1
  have hs2 := hσ.2.2.2.2.2.2.1
  have hs3 := hσ.2.2.2.2.2.2.2.1
  have hbd := hσ.2.2.2.2.2.2.2.2.1
  have hρ : RuOK (sr σ) := rho_OK hP hE
  have hc : cR f r (sr σ) := cR_of h.2.1 h.2.2.1
  have ht : tk (sr σ) (st σ) := rho_tk hE
  have hrb : rb (sr σ) = pb (sP σ) := rfl
  have hrn : rn (sr σ) = en (sE σ) := rfl
  have hrl : rl (sr σ) = pL (sP σ) := rfl
  refine zg_iload_n hX 1 rfl dX9_draughts_0 rfl 1 rfl ?_
  refine zg_iconst hX dX9_draughts_1 2 rfl ?_
  refine zg_icmp_lt hX (by omega) (by omega) dX9_draughts_2 24 (by decide) 5 rfl (fun h2 => ?_) (fun h2 => ?_)
  · refine zg_bipush hX dX9_draughts_24 26 rfl (by decide) ?_
    exact zg_iret hX hR (Nat.le_refl _) (Nat.le_refl _) rfl dX9_draughts_26 (qC_ret (by unfold o_draughts; rw [if_neg (by omega)]) h)
  · refine zg_iload_n hX 1 rfl dX9_draughts_5 rfl 6 rfl ?_
    refine zg_bipush hX dX9_draughts_6 8 rfl (by decide) ?_
    refine zg_icmp_gt hX (by omega) (by omega) dX9_draughts_8 24 (by decide) 11 rfl (fun h8 => ?_) (fun h8 => ?_)
    · refine zg_bipush hX dX9_draughts_24 26 rfl (by decide) ?_
      exact zg_iret hX hR (Nat.le_refl _) (Nat.le_refl _) rfl dX9_draughts_26 (qC_ret (by unfold o_draughts; rw [if_neg (by omega)]) h)
    · refine zg_iload_n hX 2 rfl dX9_draughts_11 rfl 12 rfl ?_
      refine zg_if_lt hX (by omega) dX9_draughts_12 24 (by decide) 15 rfl (fun h12 => ?_) (fun h12 => ?_)
      · refine zg_bipush hX dX9_draughts_24 26 rfl (by decide) ?_
        exact zg_iret hX hR (Nat.le_refl _) (Nat.le_refl _) rfl dX9_draughts_26 (qC_ret (by unfold o_draughts; rw [if_neg (by omega)]) h)
      · refine zg_iload_n hX 3 rfl dX9_draughts_15 rfl 16 rfl ?_
        refine zg_if_lt hX (by omega) dX9_draughts_16 24 (by decide) 19 rfl (fun h16 => ?_) (fun h16 => ?_)
        · refine zg_bipush hX dX9_draughts_24 26 rfl (by decide) ?_
          exact zg_iret hX hR (Nat.le_refl _) (Nat.le_refl _) rfl dX9_draughts_26 (qC_ret (by unfold o_draughts; rw [if_neg (by omega)]) h)
        · refine zg_iload_n hX 3 rfl dX9_draughts_19 rfl 20 rfl ?_
          refine zg_iconst hX dX9_draughts_20 21 rfl ?_
          refine zg_icmp_le hX (by omega) (by omega) dX9_draughts_21 27 (by decide) 24 rfl (fun h21 => ?_) (fun h21 => ?_)
          · refine zg_aload_n hX 0 rfl dX9_draughts_27 rfl 28 rfl ?_
            refine cg_0_2 hX mw_251 dX9_draughts_28 31 rfl ?_
            refine cg_6_6 hX mw_95 (en (sE σ) : Int) h.2.2.1.2.1 dX9_draughts_31 34 rfl ?_
            refine zg_if_ne hX (by omega) dX9_draughts_34 40 (by decide) 37 rfl (fun h34 => ?_) (fun h34 => ?_)
            · have el40_1 : (a : Int) = (a.toNat : Int) := by omega
              refine zg_to (lv2 := [(0, .ref (q 0)), (1, .int (zI (a.toNat : Int))), (2, .int (zI b)), (3, .int (zI w))]) (ws2 := (cW cI q f r)) (st2 := []) ?_ rfl (by rw [← el40_1]) rfl
              have el40_2 : (b : Int) = (b.toNat : Int) := by omega
              refine zg_to (lv2 := [(0, .ref (q 0)), (1, .int (zI (a.toNat : Int))), (2, .int (zI (b.toNat : Int))), (3, .int (zI w))]) (ws2 := (cW cI q f r)) (st2 := []) ?_ rfl (by rw [← el40_2]) rfl
              refine zg_aload_n hX 0 rfl dX9_draughts_40 rfl 41 rfl ?_
              refine cg_0_8 hX mw_257 dX9_draughts_41 44 rfl ?_
              refine zg_iload_n hX 1 rfl dX9_draughts_44 rfl 45 rfl ?_
              refine zg_iload_n hX 2 rfl dX9_draughts_45 rfl 46 rfl ?_
              refine zg_callV (As := [.int (zI (a.toNat : Int)), .int (zI (b.toNat : Int))]) (rest := []) (k0 := 28) (ci := 1) hX (c_X1_blow l D cI q f r (sr σ) (st σ) a.toNat b.toNat hρ hc ht h.2.2.1.2.2.1 (by omega) (by omega) (by omega)) mw_574 mw_575 mw_576 mw_9 mw_577 sg_X1_blow (by decide) (by decide) (Nat.le_refl _) (Nat.le_refl _) rfl rfl rfl (Nat.le_of_ble_eq_true rfl) dX9_draughts_46 49 rfl (fun v46 W46 hp46 => ?_)
              obtain ⟨F46, rfl, rfl, hF46, g22, g20, g21⟩ := hp46
              show G X 4 0 0 (cW cI q F46 r) [(0, .ref (q 0)), (1, .int (zI (a.toNat : Int))), (2, .int (zI (b.toNat : Int))), (3, .int (zI w))] 49 []
              have hg : CRel F46 r σ := CRel_fr h ⟨fun j hj => hF46 j (by omega) (by omega) (by omega), fun _ _ => rfl⟩
              refine zg_iload_n hX 3 rfl dX9_draughts_49 rfl 50 rfl ?_
              rcases (show w = 0 ∨ w = 1 ∨ (¬ w = 0 ∧ ¬ w = 1) from by omega) with hs50 | hs50 | hs50
              · refine zg_lookup (off := 26) hX (by omega) dX9_draughts_50 (by decide +kernel) (by rw [hs50]; rfl) 76 (by decide) ?_
                refine zg_aload_n hX 0 rfl dX9_draughts_76 rfl 77 rfl ?_
                refine cg_0_8 hX mw_257 dX9_draughts_77 80 rfl ?_
                refine cg_28_3 hX mw_231 ((drN (sr σ) (st σ) b.toNat a.toNat).2.1 : Int) g20 dX9_draughts_80 83 rfl ?_
                exact zg_iret hX hR (Nat.le_refl _) (Nat.le_refl _) rfl dX9_draughts_83 (qC_ret (by unfold o_draughts; rw [if_pos (by omega), if_neg (by omega)]; rw [hs50]; rfl) hg)
              · refine zg_lookup (off := 34) hX (by omega) dX9_draughts_50 (by decide +kernel) (by rw [hs50]; rfl) 84 (by decide) ?_
                refine zg_aload_n hX 0 rfl dX9_draughts_84 rfl 85 rfl ?_
                refine cg_0_8 hX mw_257 dX9_draughts_85 88 rfl ?_
                refine cg_28_4 hX mw_233 ((drN (sr σ) (st σ) b.toNat a.toNat).2.2 : Int) g21 dX9_draughts_88 91 rfl ?_
                exact zg_iret hX hR (Nat.le_refl _) (Nat.le_refl _) rfl dX9_draughts_91 (qC_ret (by unfold o_draughts; rw [if_pos (by omega), if_neg (by omega)]; rw [hs50]; rfl) hg)
              · refine zg_lookup (off := 42) hX (by omega) dX9_draughts_50 (by decide +kernel) (by simp [Op.lookupswitch.offset]; rw [if_neg (by omega), if_neg (by omega)]) 92 (by decide) ?_
                refine zg_aload_n hX 0 rfl dX9_draughts_92 rfl 93 rfl ?_
                refine cg_0_8 hX mw_257 dX9_draughts_93 96 rfl ?_
                refine cg_28_5 hX mw_235 ((drN (sr σ) (st σ) b.toNat a.toNat).1 : Int) g22 dX9_draughts_96 99 rfl ?_
                exact zg_iret hX hR (Nat.le_refl _) (Nat.le_refl _) rfl dX9_draughts_99 (qC_ret (by unfold o_draughts; rw [if_pos (by omega), if_neg (by omega)]; rw [show w = 2 by omega]; rfl) hg)
            · refine zg_bipush hX dX9_draughts_37 39 rfl (by decide) ?_
              exact zg_iret hX hR (Nat.le_refl _) (Nat.le_refl _) rfl dX9_draughts_39 (qC_ret (by unfold o_draughts; rw [if_pos (by omega), if_pos (by omega)]) h)
          · refine zg_bipush hX dX9_draughts_24 26 rfl (by decide) ?_
            exact zg_iret hX hR (Nat.le_refl _) (Nat.le_refl _) rfl dX9_draughts_26 (qC_ret (by unfold o_draughts; rw [if_neg (by omega)]) h)
-- QuartetNods.image
set_option maxRecDepth 20000 in
theorem c_X9_image (l : Launch) (D : va_G) (cI : ClassId) (q : Nat → Nat) (f : Nat → Int) (r : Nat → Nat → Int) (σ : Sg) (B : Nat)  (hσ : sOK σ B) (hB : B ≤ 100) (h : CRel f r σ) : Cn l D cI yX9_image cX9_image 1 (some .int) 2 0 0 [.ref (q 0)] (cW cI q f r) (qC cI q (o_image σ)) := by
  refine Cn.of [(0, .ref (q 0))] (by decide +kernel) (Nat.le_of_ble_eq_true rfl) rfl (fun X hX hR => ?_)
  have hsl := hσ.1
  have hg6 := hσ.2.1
  have hP := hσ.2.2.1
  have hE := hσ.2.2.2.1
  have hpb6 := hP.1
  have hpL9 := hP.2.1
  have hn4 := hE.1
  have hT6 := hE.2.2.2.2.1
  have hep := hE.2.2.2.2.2.2.2
  have hbk := hE.2.2.2.2.2.2.1
  have hs1 := hσ.2.2.2.2.2.1
  have hs2 := hσ.2.2.2.2.2.2.1
  have hs3 := hσ.2.2.2.2.2.2.2.1
  have hbd := hσ.2.2.2.2.2.2.2.2.1
  have hρ : RuOK (sr σ) := rho_OK hP hE
  have hc : cR f r (sr σ) := cR_of h.2.1 h.2.2.1
  have ht : tk (sr σ) (st σ) := rho_tk hE
  have hrb : rb (sr σ) = pb (sP σ) := rfl
  have hrn : rn (sr σ) = en (sE σ) := rfl
  have hrl : rl (sr σ) = pL (sP σ) := rfl
  refine zg_aload_n hX 0 rfl dX9_image_0 rfl 1 rfl ?_
  refine cg_0_1 hX mw_250 dX9_image_1 4 rfl ?_
  refine cg_3_2 hX mw_60 (pb (sP σ) : Int) h.2.1.1 dX9_image_4 7 rfl ?_
  refine zg_if_ne hX (by omega) dX9_image_7 13 (by decide) 10 rfl (fun h7 => ?_) (fun h7 => ?_)
  · refine zg_aload_n hX 0 rfl dX9_image_13 rfl 14 rfl ?_
    refine cg_0_3 hX mw_252 dX9_image_14 17 rfl ?_
    refine zg_aload_n hX 0 rfl dX9_image_17 rfl 18 rfl ?_
    refine cg_0_2 hX mw_251 dX9_image_18 21 rfl ?_
    refine zg_callV (As := [.ref (q 6)]) (rest := []) (k0 := 12) (ci := 3) hX (c_X3_takeOver_12 l D cI q f r) mw_598 mw_599 mw_600 mw_4 mw_601 sg_X3_takeOver (by decide) (by decide) (Nat.le_refl _) (Nat.le_refl _) rfl rfl rfl (Nat.le_of_ble_eq_true rfl) dX9_image_21 24 rfl (fun v21 W21 hp21 => ?_)
    obtain ⟨rfl, rfl⟩ := hp21
    show G X 1 0 0 (cW cI q (pu (pu (pu (pu (pu (pu (pu f 10 (f 3)) 11 (f 4)) 12 (f 5)) 13 (f 6)) 14 (f 7)) 15 (f 8)) 16 (f 9)) (pu (pu (pu (pu (pu r 8 (fun j => if j < 4 then (r 3) j else (r 8) j)) 9 (fun j => if j < 4 then (r 4) j else (r 9) j)) 10 (fun j => if j < 4 then (r 5) j else (r 10) j)) 11 (fun j => if j < 6 then (r 6) j else (r 11) j)) 12 (fun j => if j < 6 then (r 7) j else (r 12) j))) [(0, .ref (q 0))] 24 []
    refine zg_aload_n hX 0 rfl dX9_image_24 rfl 25 rfl ?_
    refine zg_iconst hX dX9_image_25 26 rfl ?_
    refine cp_0_9 hX mw_258 (by decide) (by decide) dX9_image_26 29 rfl ?_
    refine zg_aload_n hX 0 rfl dX9_image_29 rfl 30 rfl ?_
    refine cg_0_2 hX mw_251 dX9_image_30 33 rfl ?_
    refine cg_6_10 hX mw_106 (ep (sE σ) : Int) h.2.2.1.2.2.2.2.2.1 dX9_image_33 36 rfl ?_
    exact zg_iret hX hR (Nat.le_refl _) (Nat.le_refl _) rfl dX9_image_36 (qC_ret (by unfold o_image; rw [if_neg (by omega)]) (image_rel h (by omega) (by omega)))
  · refine zg_bipush hX dX9_image_10 12 rfl (by decide) ?_
    exact zg_iret hX hR (Nat.le_refl _) (Nat.le_refl _) rfl dX9_image_12 (qC_ret (by unfold o_image; rw [if_pos (by omega)]) h)
-- QuartetNods.restore
set_option maxRecDepth 20000 in
theorem c_X9_restore (l : Launch) (D : va_G) (cI : ClassId) (q : Nat → Nat) (f : Nat → Int) (r : Nat → Nat → Int) (σ : Sg) (B : Nat)  (hσ : sOK σ B) (hB : B ≤ 100) (h : CRel f r σ) : Cn l D cI yX9_restore cX9_restore 1 (some .int) 2 0 0 [.ref (q 0)] (cW cI q f r) (qC cI q (o_restore σ)) := by
  refine Cn.of [(0, .ref (q 0))] (by decide +kernel) (Nat.le_of_ble_eq_true rfl) rfl (fun X hX hR => ?_)
  have hsl := hσ.1
  have hg6 := hσ.2.1
  have hP := hσ.2.2.1
  have hE := hσ.2.2.2.1
  have hpb6 := hP.1
  have hpL9 := hP.2.1
  have hn4 := hE.1
  have hT6 := hE.2.2.2.2.1
  have hep := hE.2.2.2.2.2.2.2
  have hbk := hE.2.2.2.2.2.2.1
  have hs1 := hσ.2.2.2.2.2.1
  have hs2 := hσ.2.2.2.2.2.2.1
  have hs3 := hσ.2.2.2.2.2.2.2.1
  have hbd := hσ.2.2.2.2.2.2.2.2.1
  have hρ : RuOK (sr σ) := rho_OK hP hE
  have hc : cR f r (sr σ) := cR_of h.2.1 h.2.2.1
  have ht : tk (sr σ) (st σ) := rho_tk hE
  have hrb : rb (sr σ) = pb (sP σ) := rfl
  have hrn : rn (sr σ) = en (sE σ) := rfl
  have hrl : rl (sr σ) = pL (sP σ) := rfl
  refine zg_aload_n hX 0 rfl dX9_restore_0 rfl 1 rfl ?_
  refine cg_0_9 hX mw_258 (b2 (sk σ)) h.2.2.2.2.1 dX9_restore_1 4 rfl ?_
  refine zg_ifb_ne hX dX9_restore_4 10 (by decide) 7 rfl (fun h4 => ?_) (fun h4 => ?_)
  · refine zg_aload_n hX 0 rfl dX9_restore_10 rfl 11 rfl ?_
    refine cg_0_2 hX mw_251 dX9_restore_11 14 rfl ?_
    refine zg_aload_n hX 0 rfl dX9_restore_14 rfl 15 rfl ?_
    refine cg_0_3 hX mw_252 dX9_restore_15 18 rfl ?_
    refine zg_callV (As := [.ref (q 12)]) (rest := []) (k0 := 6) (ci := 3) hX (c_X3_takeOver_6 l D cI q f r) mw_598 mw_599 mw_600 mw_4 mw_601 sg_X3_takeOver (by decide) (by decide) (Nat.le_refl _) (Nat.le_refl _) rfl rfl rfl (Nat.le_of_ble_eq_true rfl) dX9_restore_18 21 rfl (fun v18 W18 hp18 => ?_)
    obtain ⟨rfl, rfl⟩ := hp18
    show G X 1 0 0 (cW cI q (pu (pu (pu (pu (pu (pu (pu f 3 (f 10)) 4 (f 11)) 5 (f 12)) 6 (f 13)) 7 (f 14)) 8 (f 15)) 9 (f 16)) (pu (pu (pu (pu (pu r 3 (fun j => if j < 4 then (r 8) j else (r 3) j)) 4 (fun j => if j < 4 then (r 9) j else (r 4) j)) 5 (fun j => if j < 4 then (r 10) j else (r 5) j)) 6 (fun j => if j < 6 then (r 11) j else (r 6) j)) 7 (fun j => if j < 6 then (r 12) j else (r 7) j))) [(0, .ref (q 0))] 21 []
    refine zg_aload_n hX 0 rfl dX9_restore_21 rfl 22 rfl ?_
    refine cg_0_2 hX mw_251 dX9_restore_22 25 rfl ?_
    refine cg_6_10 hX mw_106 (ep (sK σ) : Int) ((h.2.2.2.1 h4).2.2.2.2.2.1) dX9_restore_25 28 rfl ?_
    exact zg_iret hX hR (Nat.le_refl _) (Nat.le_refl _) rfl dX9_restore_28 (qC_ret (by unfold o_restore; rw [if_pos h4]) (restore_rel h h4 ((hσ.2.2.2.2.1 h4).1) ((hσ.2.2.2.2.1 h4).2.2.2.2.1)))
  · refine zg_bipush hX dX9_restore_7 9 rfl (by decide) ?_
    exact zg_iret hX hR (Nat.le_refl _) (Nat.le_refl _) rfl dX9_restore_9 (qC_ret (by unfold o_restore; rw [if_neg (by rw [h4]; decide)]) h)
-- QuartetNods.countOf
set_option maxRecDepth 20000 in
theorem c_X9_countOf (l : Launch) (D : va_G) (cI : ClassId) (q : Nat → Nat) (f : Nat → Int) (r : Nat → Nat → Int) (σ : Sg) (B : Nat) (w : Int) (hσ : sOK σ B) (hB : B ≤ 100) (h : CRel f r σ) (hw : 0 ≤ w ∧ w ≤ 12) : Cn l D cI yX9_countOf cX9_countOf 2 (some .int) 2 0 0 [.ref (q 0), .int (zI w)] (cW cI q f r) (qC cI q ((σ, cntA σ w))) := by
  refine Cn.of [(0, .ref (q 0)), (1, .int (zI w))] (by decide +kernel) (Nat.le_of_ble_eq_true rfl) rfl (fun X hX hR => ?_)
  have hsl := hσ.1
  have hg6 := hσ.2.1
  have hP := hσ.2.2.1
  have hE := hσ.2.2.2.1
  have hpb6 := hP.1
  have hpL9 := hP.2.1
  have hn4 := hE.1
  have hT6 := hE.2.2.2.2.1
  have hep := hE.2.2.2.2.2.2.2
  have hbk := hE.2.2.2.2.2.2.1
  have hs1 := hσ.2.2.2.2.2.1
  have hs2 := hσ.2.2.2.2.2.2.1
  have hs3 := hσ.2.2.2.2.2.2.2.1
  have hbd := hσ.2.2.2.2.2.2.2.2.1
  have hρ : RuOK (sr σ) := rho_OK hP hE
  have hc : cR f r (sr σ) := cR_of h.2.1 h.2.2.1
  have ht : tk (sr σ) (st σ) := rho_tk hE
  have hrb : rb (sr σ) = pb (sP σ) := rfl
  have hrn : rn (sr σ) = en (sE σ) := rfl
  have hrl : rl (sr σ) = pL (sP σ) := rfl
  refine zg_iload_n hX 1 rfl dX9_countOf_0 rfl 1 rfl ?_
  rcases (show w = 0 ∨ w = 1 ∨ w = 2 ∨ w = 3 ∨ w = 4 ∨ w = 5 ∨ w = 6 ∨ w = 7 ∨ w = 8 ∨ w = 9 ∨ w = 10 ∨ w = 11 ∨ (w < 0 ∨ 11 < w) from by omega) with hs1 | hs1 | hs1 | hs1 | hs1 | hs1 | hs1 | hs1 | hs1 | hs1 | hs1 | hs1 | hs1
  · refine zg_tableIn hX (by omega) dX9_countOf_1 (by omega) (by omega) 0 (by omega) rfl 64 (by decide) ?_
    refine zg_aload_n hX 0 rfl dX9_countOf_64 rfl 65 rfl ?_
    refine cg_0_1 hX mw_250 dX9_countOf_65 68 rfl ?_
    refine cg_3_2 hX mw_60 (pb (sP σ) : Int) h.2.1.1 dX9_countOf_68 71 rfl ?_
    exact zg_iret hX hR (Nat.le_refl _) (Nat.le_refl _) rfl dX9_countOf_71 (qC_ret (by rw [hs1]; rfl) h)
  · refine zg_tableIn hX (by omega) dX9_countOf_1 (by omega) (by omega) 1 (by omega) rfl 72 (by decide) ?_
    refine zg_aload_n hX 0 rfl dX9_countOf_72 rfl 73 rfl ?_
    refine cg_0_1 hX mw_250 dX9_countOf_73 76 rfl ?_
    refine cg_3_3 hX mw_64 (pL (sP σ) : Int) h.2.1.2.1 dX9_countOf_76 79 rfl ?_
    exact zg_iret hX hR (Nat.le_refl _) (Nat.le_refl _) rfl dX9_countOf_79 (qC_ret (by rw [hs1]; rfl) h)
  · refine zg_tableIn hX (by omega) dX9_countOf_1 (by omega) (by omega) 2 (by omega) rfl 80 (by decide) ?_
    refine zg_aload_n hX 0 rfl dX9_countOf_80 rfl 81 rfl ?_
    refine cg_0_2 hX mw_251 dX9_countOf_81 84 rfl ?_
    refine cg_6_6 hX mw_95 (en (sE σ) : Int) h.2.2.1.2.1 dX9_countOf_84 87 rfl ?_
    exact zg_iret hX hR (Nat.le_refl _) (Nat.le_refl _) rfl dX9_countOf_87 (qC_ret (by rw [hs1]; rfl) h)
  · refine zg_tableIn hX (by omega) dX9_countOf_1 (by omega) (by omega) 3 (by omega) rfl 88 (by decide) ?_
    refine zg_aload_n hX 0 rfl dX9_countOf_88 rfl 89 rfl ?_
    refine cg_0_4 hX mw_253 dX9_countOf_89 92 rfl ?_
    refine zg_aload_n hX 0 rfl dX9_countOf_92 rfl 93 rfl ?_
    refine cg_0_2 hX mw_251 dX9_countOf_93 96 rfl ?_
    refine cg_6_7 hX mw_100 (n6 (st σ)) h.2.2.1.2.2.1 dX9_countOf_96 99 rfl ?_
    refine zg_callVi (As := [.int (zI (n6 (st σ)))]) (rest := []) (k0 := 18) (ci := 2) hX (c_X2_awakeOf l D cI q f r (sr σ) (st σ) hρ hc ht) mw_425 mw_359 mw_360 mw_5 mw_361 sg_X2_awakeOf (by decide) (by decide) (Nat.le_refl _) (Nat.le_refl _) rfl rfl rfl (Nat.le_of_ble_eq_true rfl) dX9_countOf_99 102 rfl ?_
    refine zg_callSi (As := [.int (zI ((mk (aw (sr σ) (st σ)) 4 : Nat) : Int))]) (rest := []) hX (c_J6_bitCount_0f7a4 l D cI _ (mk (aw (sr σ) (st σ)) 4) (mk_lt _ 4)) mw_615 mw_616 mw_14 mw_617 sg_J6_bitCount_0f7a4.2 (by decide) (by decide) (Nat.le_refl _) (Nat.le_refl _) rfl (Nat.le_of_ble_eq_true rfl) dX9_countOf_102 105 rfl ?_
    exact zg_iret hX hR (Nat.le_refl _) (Nat.le_refl _) rfl dX9_countOf_105 (qC_ret (by rw [hs1, pc4_cw]; rfl) h)
  · refine zg_tableIn hX (by omega) dX9_countOf_1 (by omega) (by omega) 4 (by omega) rfl 106 (by decide) ?_
    refine zg_aload_n hX 0 rfl dX9_countOf_106 rfl 107 rfl ?_
    refine cg_0_4 hX mw_253 dX9_countOf_107 110 rfl ?_
    refine zg_aload_n hX 0 rfl dX9_countOf_110 rfl 111 rfl ?_
    refine cg_0_4 hX mw_253 dX9_countOf_111 114 rfl ?_
    refine zg_aload_n hX 0 rfl dX9_countOf_114 rfl 115 rfl ?_
    refine cg_0_2 hX mw_251 dX9_countOf_115 118 rfl ?_
    refine cg_6_7 hX mw_100 (n6 (st σ)) h.2.2.1.2.2.1 dX9_countOf_118 121 rfl ?_
    refine zg_callVi (As := [.int (zI (n6 (st σ)))]) (rest := [.ref (q 18)]) (k0 := 18) (ci := 2) hX (c_X2_awakeOf l D cI q f r (sr σ) (st σ) hρ hc ht) mw_425 mw_359 mw_360 mw_5 mw_361 sg_X2_awakeOf (by decide) (by decide) (Nat.le_refl _) (Nat.le_refl _) rfl rfl rfl (Nat.le_of_ble_eq_true rfl) dX9_countOf_121 124 rfl ?_
    refine zg_callVi (As := [.int (zI ((mk (aw (sr σ) (st σ)) 4 : Nat) : Int))]) (rest := []) (k0 := 18) (ci := 2) hX (c_X2_heardWith l D cI q f r (sr σ) (st σ) hρ hc) mw_426 mw_366 mw_367 mw_5 mw_368 sg_X2_heardWith (by decide) (by decide) (Nat.le_refl _) (Nat.le_refl _) rfl rfl rfl (Nat.le_of_ble_eq_true rfl) dX9_countOf_124 127 rfl ?_
    refine zg_callSi (As := [.int (zI ((mk (he (sr σ) (st σ)) 4 : Nat) : Int))]) (rest := []) hX (c_J6_bitCount_0f7a4 l D cI _ (mk (he (sr σ) (st σ)) 4) (mk_lt _ 4)) mw_615 mw_616 mw_14 mw_617 sg_J6_bitCount_0f7a4.2 (by decide) (by decide) (Nat.le_refl _) (Nat.le_refl _) rfl (Nat.le_of_ble_eq_true rfl) dX9_countOf_127 130 rfl ?_
    exact zg_iret hX hR (Nat.le_refl _) (Nat.le_refl _) rfl dX9_countOf_130 (qC_ret (by rw [hs1, pc4_cw]; rfl) h)
  · refine zg_tableIn hX (by omega) dX9_countOf_1 (by omega) (by omega) 5 (by omega) rfl 131 (by decide) ?_
    refine zg_aload_n hX 0 rfl dX9_countOf_131 rfl 132 rfl ?_
    refine cg_0_2 hX mw_251 dX9_countOf_132 135 rfl ?_
    refine cg_6_10 hX mw_106 (ep (sE σ) : Int) h.2.2.1.2.2.2.2.2.1 dX9_countOf_135 138 rfl ?_
    exact zg_iret hX hR (Nat.le_refl _) (Nat.le_refl _) rfl dX9_countOf_138 (qC_ret (by rw [hs1]; rfl) h)
  · refine zg_tableIn hX (by omega) dX9_countOf_1 (by omega) (by omega) 6 (by omega) rfl 139 (by decide) ?_
    refine zg_aload_n hX 0 rfl dX9_countOf_139 rfl 140 rfl ?_
    refine cg_0_2 hX mw_251 dX9_countOf_140 143 rfl ?_
    refine cg_6_11 hX mw_108 (es (sE σ) : Int) h.2.2.1.2.2.2.2.2.2.1 dX9_countOf_143 146 rfl ?_
    exact zg_iret hX hR (Nat.le_refl _) (Nat.le_refl _) rfl dX9_countOf_146 (qC_ret (by rw [hs1]; rfl) h)
  · refine zg_tableIn hX (by omega) dX9_countOf_1 (by omega) (by omega) 7 (by omega) rfl 147 (by decide) ?_
    refine zg_aload_n hX 0 rfl dX9_countOf_147 rfl 148 rfl ?_
    refine cg_0_2 hX mw_251 dX9_countOf_148 151 rfl ?_
    refine zg_callVi (As := []) (rest := []) (k0 := 6) (ci := 3) hX (c_X3_coffeesGiven l D cI q f r (sE σ) h.2.2.1 hn4) mw_621 mw_622 mw_623 mw_4 mw_624 sg_X3_coffeesGiven (by decide) (by decide) (Nat.le_refl _) (Nat.le_refl _) rfl rfl rfl (Nat.le_of_ble_eq_true rfl) dX9_countOf_151 154 rfl ?_
    exact zg_iret hX hR (Nat.le_refl _) (Nat.le_refl _) rfl dX9_countOf_154 (qC_ret (by rw [hs1]; rfl) h)
  · refine zg_tableIn hX (by omega) dX9_countOf_1 (by omega) (by omega) 8 (by omega) rfl 155 (by decide) ?_
    refine zg_aload_n hX 0 rfl dX9_countOf_155 rfl 156 rfl ?_
    refine cg_0_2 hX mw_251 dX9_countOf_156 159 rfl ?_
    refine cg_6_5 hX mw_90 (eT (sE σ) : Int) h.2.2.1.1 dX9_countOf_159 162 rfl ?_
    exact zg_iret hX hR (Nat.le_refl _) (Nat.le_refl _) rfl dX9_countOf_162 (qC_ret (by rw [hs1]; rfl) h)
  · refine zg_tableIn hX (by omega) dX9_countOf_1 (by omega) (by omega) 9 (by omega) rfl 163 (by decide) ?_
    refine zg_aload_n hX 0 rfl dX9_countOf_163 rfl 164 rfl ?_
    refine cg_0_0 hX mw_249 dX9_countOf_164 167 rfl ?_
    refine cg_1_1 hX mw_33 (sl σ : Int) h.1.1 dX9_countOf_167 170 rfl ?_
    exact zg_iret hX hR (Nat.le_refl _) (Nat.le_refl _) rfl dX9_countOf_170 (qC_ret (by rw [hs1]; rfl) h)
  · refine zg_tableIn hX (by omega) dX9_countOf_1 (by omega) (by omega) 10 (by omega) rfl 171 (by decide) ?_
    refine zg_aload_n hX 0 rfl dX9_countOf_171 rfl 172 rfl ?_
    refine cg_0_10 hX mw_259 (s1 σ : Int) h.2.2.2.2.2.1 dX9_countOf_172 175 rfl ?_
    exact zg_iret hX hR (Nat.le_refl _) (Nat.le_refl _) rfl dX9_countOf_175 (qC_ret (by rw [hs1]; rfl) h)
  · refine zg_tableIn hX (by omega) dX9_countOf_1 (by omega) (by omega) 11 (by omega) rfl 176 (by decide) ?_
    refine zg_aload_n hX 0 rfl dX9_countOf_176 rfl 177 rfl ?_
    refine cg_0_11 hX mw_260 (s2 σ : Int) h.2.2.2.2.2.2.1 dX9_countOf_177 180 rfl ?_
    exact zg_iret hX hR (Nat.le_refl _) (Nat.le_refl _) rfl dX9_countOf_180 (qC_ret (by rw [hs1]; rfl) h)
  · refine zg_tableOut hX (by omega) dX9_countOf_1 (by omega) 181 (by decide) ?_
    refine zg_aload_n hX 0 rfl dX9_countOf_181 rfl 182 rfl ?_
    refine cg_0_12 hX mw_261 (s3 σ : Int) h.2.2.2.2.2.2.2 dX9_countOf_182 185 rfl ?_
    exact zg_iret hX hR (Nat.le_refl _) (Nat.le_refl _) rfl dX9_countOf_185 (qC_ret (by rw [show w = 12 by omega]; rfl) h)
-- QuartetNods.count
set_option maxRecDepth 20000 in
theorem c_X9_count (l : Launch) (D : va_G) (cI : ClassId) (q : Nat → Nat) (f : Nat → Int) (r : Nat → Nat → Int) (σ : Sg) (B : Nat) (a : Int) (hσ : sOK σ B) (hB : B ≤ 100) (h : CRel f r σ) (ha : -2147483648 ≤ a ∧ a < 2147483648) : Cn l D cI yX9_count cX9_count 2 (some .int) 3 0 0 [.ref (q 0), .int (zI a)] (cW cI q f r) (qC cI q (o_count σ a)) := by
  refine Cn.of [(0, .ref (q 0)), (1, .int (zI a))] (by decide +kernel) (Nat.le_of_ble_eq_true rfl) rfl (fun X hX hR => ?_)
  have hsl := hσ.1
  have hg6 := hσ.2.1
  have hP := hσ.2.2.1
  have hE := hσ.2.2.2.1
  have hpb6 := hP.1
  have hpL9 := hP.2.1
  have hn4 := hE.1
  have hT6 := hE.2.2.2.2.1
  have hep := hE.2.2.2.2.2.2.2
  have hbk := hE.2.2.2.2.2.2.1
  have hs1 := hσ.2.2.2.2.2.1
  have hs2 := hσ.2.2.2.2.2.2.1
  have hs3 := hσ.2.2.2.2.2.2.2.1
  have hbd := hσ.2.2.2.2.2.2.2.2.1
  have hρ : RuOK (sr σ) := rho_OK hP hE
  have hc : cR f r (sr σ) := cR_of h.2.1 h.2.2.1
  have ht : tk (sr σ) (st σ) := rho_tk hE
  have hrb : rb (sr σ) = pb (sP σ) := rfl
  have hrn : rn (sr σ) = en (sE σ) := rfl
  have hrl : rl (sr σ) = pL (sP σ) := rfl
  refine zg_iload_n hX 1 rfl dX9_count_0 rfl 1 rfl ?_
  refine zg_if_lt hX (by omega) dX9_count_1 10 (by decide) 4 rfl (fun h1 => ?_) (fun h1 => ?_)
  · refine zg_bipush hX dX9_count_10 12 rfl (by decide) ?_
    exact zg_iret hX hR (Nat.le_refl _) (Nat.le_refl _) rfl dX9_count_12 (qC_ret (by unfold o_count; rw [if_neg (by omega)]) h)
  · refine zg_iload_n hX 1 rfl dX9_count_4 rfl 5 rfl ?_
    refine zg_bipush hX dX9_count_5 7 rfl (by decide) ?_
    refine zg_icmp_le hX (by omega) (by omega) dX9_count_7 13 (by decide) 10 rfl (fun h7 => ?_) (fun h7 => ?_)
    · refine zg_aload_n hX 0 rfl dX9_count_13 rfl 14 rfl ?_
      refine zg_iload_n hX 1 rfl dX9_count_14 rfl 15 rfl ?_
      refine zg_callV (As := [.int (zI a)]) (rest := []) (k0 := 0) (ci := 8) hX (c_X9_countOf l D cI q f r σ B a hσ hB h (by omega)) mw_611 mw_613 mw_s10 mw_1 mw_614 sg_X9_countOf (by decide) (by decide) (Nat.le_refl _) (Nat.le_refl _) rfl rfl rfl (Nat.le_of_ble_eq_true rfl) dX9_count_15 18 rfl (fun v15 W15 hp15 => ?_)
      obtain ⟨F15, R15, rfl, rfl, hr15⟩ := hp15
      show G X 2 0 0 (cW cI q F15 R15) [(0, .ref (q 0)), (1, .int (zI a))] 18 [.int (zI (cntA σ a))]
      exact zg_iret hX hR (Nat.le_refl _) (Nat.le_refl _) rfl dX9_count_18 (qC_ret (by unfold o_count; rw [if_pos (by omega)]) hr15)
    · refine zg_bipush hX dX9_count_10 12 rfl (by decide) ?_
      exact zg_iret hX hR (Nat.le_refl _) (Nat.le_refl _) rfl dX9_count_12 (qC_ret (by unfold o_count; rw [if_neg (by omega)]) h)
