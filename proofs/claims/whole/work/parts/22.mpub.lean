theorem fz_snoc (s : Nat → Nat) (i m : Nat) : fz s i (m + 1) = if fz s i m = -1 then (if 0 < s (i + m) then ((i + m : Nat) : Int) else -1) else fz s i m := by
  induction m generalizing i with
  | zero => simp only [fz]; simp
  | succ m ih =>
    have e1 : fz s i (m + 1 + 1) = if 0 < s i then (i : Int) else fz s (i + 1) (m + 1) := rfl
    have e2 : fz s i (m + 1) = if 0 < s i then (i : Int) else fz s (i + 1) m := rfl
    rw [e1, e2, ih (i + 1), show i + 1 + m = i + (m + 1) by omega]
    by_cases h : 0 < s i
    · rw [if_pos h, if_pos h, if_neg (by omega)]
    · rw [if_neg h, if_neg h]
theorem lis_end {σ : Sg} {p b : Nat} (h0 : mk (gs σ p) 10 = 0 → b = 0) (h1 : ¬ mk (gs σ p) 10 = 0 → b = pb (sP σ)) : some (Value.int (zI (bb (wo σ p) b).1)) = some (Value.int (zI (lis σ p))) := by
  by_cases hq : mk (gs σ p) 10 = 0
  · rw [show lis σ p = -1 by (unfold lis; rw [if_pos hq]), h0 hq]; rfl
  · unfold lis; rw [if_neg hq, h1 hq]
theorem sg_X10_letter : yX10_letter.cls = RX10 ∧ yX10_letter.cls ≠ "java/lang/invoke/MethodHandle" ∧ yX10_letter.cls ≠ "java/lang/invoke/VarHandle" ∧ (parseMethodDescriptor yX10_letter.desc).map (fun d => d.parameters.length) = some 1 := by decide +kernel
theorem sg_X10_blank : yX10_blank.cls = RX10 ∧ yX10_blank.cls ≠ "java/lang/invoke/MethodHandle" ∧ yX10_blank.cls ≠ "java/lang/invoke/VarHandle" ∧ (parseMethodDescriptor yX10_blank.desc).map (fun d => d.parameters.length) = some 0 := by decide +kernel
theorem sg_X10_player : yX10_player.cls = RX10 ∧ yX10_player.cls ≠ "java/lang/invoke/MethodHandle" ∧ yX10_player.cls ≠ "java/lang/invoke/VarHandle" ∧ (parseMethodDescriptor yX10_player.desc).map (fun d => d.parameters.length) = some 2 := by decide +kernel
theorem sg_X10_toldOf : yX10_toldOf.cls = RX10 ∧ yX10_toldOf.cls ≠ "java/lang/invoke/MethodHandle" ∧ yX10_toldOf.cls ≠ "java/lang/invoke/VarHandle" ∧ (parseMethodDescriptor yX10_toldOf.desc).map (fun d => d.parameters.length) = some 1 := by decide +kernel
theorem sg_X10_tellBar : yX10_tellBar.cls = RX10 ∧ yX10_tellBar.cls ≠ "java/lang/invoke/MethodHandle" ∧ yX10_tellBar.cls ≠ "java/lang/invoke/VarHandle" ∧ (parseMethodDescriptor yX10_tellBar.desc).map (fun d => d.parameters.length) = some 2 := by decide +kernel
theorem sg_X10_bar : yX10_bar.cls = RX10 ∧ yX10_bar.cls ≠ "java/lang/invoke/MethodHandle" ∧ yX10_bar.cls ≠ "java/lang/invoke/VarHandle" ∧ (parseMethodDescriptor yX10_bar.desc).map (fun d => d.parameters.length) = some 2 := by decide +kernel
theorem sg_X10_takesNext : yX10_takesNext.cls = RX10 ∧ yX10_takesNext.cls ≠ "java/lang/invoke/MethodHandle" ∧ yX10_takesNext.cls ≠ "java/lang/invoke/VarHandle" ∧ (parseMethodDescriptor yX10_takesNext.desc).map (fun d => d.parameters.length) = some 1 := by decide +kernel
theorem sg_X10_tellPlayer : yX10_tellPlayer.cls = RX10 ∧ yX10_tellPlayer.cls ≠ "java/lang/invoke/MethodHandle" ∧ yX10_tellPlayer.cls ≠ "java/lang/invoke/VarHandle" ∧ (parseMethodDescriptor yX10_tellPlayer.desc).map (fun d => d.parameters.length) = some 2 := by decide +kernel
theorem sg_X10_about : yX10_about.cls = RX10 ∧ yX10_about.cls ≠ "java/lang/invoke/MethodHandle" ∧ yX10_about.cls ≠ "java/lang/invoke/VarHandle" ∧ (parseMethodDescriptor yX10_about.desc).map (fun d => d.parameters.length) = some 2 := by decide +kernel
theorem sg_X10_as : yX10_as.cls = RX10 ∧ yX10_as.cls ≠ "java/lang/invoke/MethodHandle" ∧ yX10_as.cls ≠ "java/lang/invoke/VarHandle" ∧ (parseMethodDescriptor yX10_as.desc).map (fun d => d.parameters.length) = some 2 := by decide +kernel
theorem sg_X10_coffee : yX10_coffee.cls = RX10 ∧ yX10_coffee.cls ≠ "java/lang/invoke/MethodHandle" ∧ yX10_coffee.cls ≠ "java/lang/invoke/VarHandle" ∧ (parseMethodDescriptor yX10_coffee.desc).map (fun d => d.parameters.length) = some 1 := by decide +kernel
theorem sg_X10_tire : yX10_tire.cls = RX10 ∧ yX10_tire.cls ≠ "java/lang/invoke/MethodHandle" ∧ yX10_tire.cls ≠ "java/lang/invoke/VarHandle" ∧ (parseMethodDescriptor yX10_tire.desc).map (fun d => d.parameters.length) = some 2 := by decide +kernel
theorem sg_X10_play : yX10_play.cls = RX10 ∧ yX10_play.cls ≠ "java/lang/invoke/MethodHandle" ∧ yX10_play.cls ≠ "java/lang/invoke/VarHandle" ∧ (parseMethodDescriptor yX10_play.desc).map (fun d => d.parameters.length) = some 0 := by decide +kernel
theorem sg_X10_again : yX10_again.cls = RX10 ∧ yX10_again.cls ≠ "java/lang/invoke/MethodHandle" ∧ yX10_again.cls ≠ "java/lang/invoke/VarHandle" ∧ (parseMethodDescriptor yX10_again.desc).map (fun d => d.parameters.length) = some 0 := by decide +kernel
theorem sg_X10_hearingOf : yX10_hearingOf.cls = RX10 ∧ yX10_hearingOf.cls ≠ "java/lang/invoke/MethodHandle" ∧ yX10_hearingOf.cls ≠ "java/lang/invoke/VarHandle" ∧ (parseMethodDescriptor yX10_hearingOf.desc).map (fun d => d.parameters.length) = some 1 := by decide +kernel
theorem sg_X10_hearing : yX10_hearing.cls = RX10 ∧ yX10_hearing.cls ≠ "java/lang/invoke/MethodHandle" ∧ yX10_hearing.cls ≠ "java/lang/invoke/VarHandle" ∧ (parseMethodDescriptor yX10_hearing.desc).map (fun d => d.parameters.length) = some 1 := by decide +kernel
theorem sg_X10_tell : yX10_tell.cls = RX10 ∧ yX10_tell.cls ≠ "java/lang/invoke/MethodHandle" ∧ yX10_tell.cls ≠ "java/lang/invoke/VarHandle" ∧ (parseMethodDescriptor yX10_tell.desc).map (fun d => d.parameters.length) = some 2 := by decide +kernel
theorem sg_X10_forget : yX10_forget.cls = RX10 ∧ yX10_forget.cls ≠ "java/lang/invoke/MethodHandle" ∧ yX10_forget.cls ≠ "java/lang/invoke/VarHandle" ∧ (parseMethodDescriptor yX10_forget.desc).map (fun d => d.parameters.length) = some 0 := by decide +kernel
theorem sg_X10_isSo : yX10_isSo.cls = RX10 ∧ yX10_isSo.cls ≠ "java/lang/invoke/MethodHandle" ∧ yX10_isSo.cls ≠ "java/lang/invoke/VarHandle" ∧ (parseMethodDescriptor yX10_isSo.desc).map (fun d => d.parameters.length) = some 2 := by decide +kernel
theorem sg_X10_guessOf : yX10_guessOf.cls = RX10 ∧ yX10_guessOf.cls ≠ "java/lang/invoke/MethodHandle" ∧ yX10_guessOf.cls ≠ "java/lang/invoke/VarHandle" ∧ (parseMethodDescriptor yX10_guessOf.desc).map (fun d => d.parameters.length) = some 1 := by decide +kernel
theorem sg_X10_guess : yX10_guess.cls = RX10 ∧ yX10_guess.cls ≠ "java/lang/invoke/MethodHandle" ∧ yX10_guess.cls ≠ "java/lang/invoke/VarHandle" ∧ (parseMethodDescriptor yX10_guess.desc).map (fun d => d.parameters.length) = some 1 := by decide +kernel
theorem sg_X10_listenOf : yX10_listenOf.cls = RX10 ∧ yX10_listenOf.cls ≠ "java/lang/invoke/MethodHandle" ∧ yX10_listenOf.cls ≠ "java/lang/invoke/VarHandle" ∧ (parseMethodDescriptor yX10_listenOf.desc).map (fun d => d.parameters.length) = some 1 := by decide +kernel
theorem sg_X10_listen : yX10_listen.cls = RX10 ∧ yX10_listen.cls ≠ "java/lang/invoke/MethodHandle" ∧ yX10_listen.cls ≠ "java/lang/invoke/VarHandle" ∧ (parseMethodDescriptor yX10_listen.desc).map (fun d => d.parameters.length) = some 1 := by decide +kernel
-- Model.letter
set_option maxRecDepth 20000 in
theorem c_X10_letter (l : Launch) (D : va_G) (cI : ClassId) (q : Nat → Nat) (f : Nat → Int) (r : Nat → Nat → Int) (σ : Sg) (B : Nat) (a : Int) (hσ : sOK σ B) (hB : B ≤ 100) (h : MRel f r σ) (ha : -2147483648 ≤ a ∧ a < 2147483648) : Cn l D cI yX10_letter cX10_letter 2 (some .int) 1 0 0 [.ref (q 0), .int (zI a)] (mW cI q f r) (qM cI q (o_letter σ a)) := by
  refine Cn.of [(0, .ref (q 0)), (1, .int (zI a))] (by decide +kernel) (Nat.le_of_ble_eq_true rfl) rfl (fun X hX hR => ?_)
  have hsl := hσ.1
  have hg6 := hσ.2.1
  have hP := hσ.2.2.1
  have hE := hσ.2.2.2.1
  have hpb6 := hP.1
  have hpL9 := hP.2.1
  have hn4 := hE.1
  have hT6 := hE.2.2.2.2.1
  have hep := hE.2.2.2.2.2.2.2
  have hbk := hE.2.2.2.2.2.2.1
  have hs1 := hσ.2.2.2.2.2.1
  have hs2 := hσ.2.2.2.2.2.2.1
  have hs3 := hσ.2.2.2.2.2.2.2.1
  have hbd := hσ.2.2.2.2.2.2.2.2.1
  have hρ : RuOK (sr σ) := rho_OK hP hE
  have ht : tk (sr σ) (st σ) := rho_tk hE
  have hrb : rb (sr σ) = pb (sP σ) := rfl
  have hrn : rn (sr σ) = en (sE σ) := rfl
  have hrl : rl (sr σ) = pL (sP σ) := rfl
  have hm : mR f r (sr σ) := mR_of h.2.1 h.2.2.1
  refine zg_iload_n hX 1 rfl dX10_letter_0 rfl 1 rfl ?_
  refine zg_i2l hX (by omega) dX10_letter_1 2 rfl ?_
  refine zg_lconst (a := 1) hX (by decide) dX10_letter_2 3 rfl ?_
  refine zg_ldc2 (a := 126) hX mw_745 (by decide) dX10_letter_3 6 rfl ?_
  refine zg_callSi (As := [.long (zL a), .long (zL 1), .long (zL 126)]) (rest := []) hX (c_X10_in l D cI _ a 1 126 (by omega) (by omega) (by omega)) mw_746 mw_747 mw_10 mw_748 sg_X10_in.2 (by decide) (by decide) (Nat.le_refl _) (Nat.le_refl _) rfl (Nat.le_of_ble_eq_true rfl) dX10_letter_6 9 rfl ?_
  refine zg_ifb_ne hX dX10_letter_9 15 (by decide) 12 rfl (fun h9 => ?_) (fun h9 => ?_)
  · have h9a := of_decide_eq_true h9
    refine zg_aload_n hX 0 rfl dX10_letter_15 rfl 16 rfl ?_
    refine mg_0_1 hX mw_642 (sl σ : Int) h.1.1 dX10_letter_16 19 rfl ?_
    refine zg_bipush hX dX10_letter_19 21 rfl (by decide) ?_
    refine zg_icmp_ne hX (by omega) (by omega) dX10_letter_21 27 (by decide) 24 rfl (fun h21 => ?_) (fun h21 => ?_)
    · refine zg_aload_n hX 0 rfl dX10_letter_27 rfl 28 rfl ?_
      refine mg_0_0 hX mw_641 dX10_letter_28 31 rfl ?_
      refine zg_aload_n hX 0 rfl dX10_letter_31 rfl 32 rfl ?_
      refine mg_0_1 hX mw_642 (sl σ : Int) h.1.1 dX10_letter_32 35 rfl ?_
      refine zg_iload_n hX 1 rfl dX10_letter_35 rfl 36 rfl ?_
      refine ms_1 hX (sl σ) (by omega) (by omega) dX10_letter_36 37 rfl ?_
      refine zg_aload_n hX 0 rfl dX10_letter_37 rfl 38 rfl ?_
      refine zg_dup hX rfl dX10_letter_38 39 rfl ?_
      refine mg_0_1 hX mw_642 (sl σ : Int) h.1.1 dX10_letter_39 42 rfl ?_
      refine zg_iconst hX dX10_letter_42 43 rfl ?_
      refine zg_iadd hX dX10_letter_43 44 rfl ?_
      refine mp_0_1 hX mw_642 dX10_letter_44 47 rfl ?_
      refine zg_aload_n hX 0 rfl dX10_letter_47 rfl 48 rfl ?_
      refine mg_0_1 hX mw_642 ((sl σ : Int) + 1) rfl dX10_letter_48 51 rfl ?_
      exact zg_iret hX hR (Nat.le_refl _) (Nat.le_refl _) rfl dX10_letter_51 (qM_ret (by unfold o_letter; rw [if_neg (by omega), if_neg (by omega)]) (m_letter h (by omega)))
    · refine zg_bipush hX dX10_letter_24 26 rfl (by decide) ?_
      exact zg_iret hX hR (Nat.le_refl _) (Nat.le_refl _) rfl dX10_letter_26 (qM_ret (by unfold o_letter; rw [if_neg (by omega), if_pos (by omega)]) h)
  · have h9a := of_decide_eq_false h9
    refine zg_bipush hX dX10_letter_12 14 rfl (by decide) ?_
    exact zg_iret hX hR (Nat.le_refl _) (Nat.le_refl _) rfl dX10_letter_14 (qM_ret (by unfold o_letter; rw [if_pos (by omega)]) h)
-- Model.blank
set_option maxRecDepth 20000 in
theorem c_X10_blank (l : Launch) (D : va_G) (cI : ClassId) (q : Nat → Nat) (f : Nat → Int) (r : Nat → Nat → Int) (σ : Sg) (B : Nat)  (hσ : sOK σ B) (hB : B ≤ 100) (h : MRel f r σ) : Cn l D cI yX10_blank cX10_blank 2 (some .int) 0 0 0 [.ref (q 0)] (mW cI q f r) (qM cI q (o_blank σ)) := by
  refine Cn.of [(0, .ref (q 0))] (by decide +kernel) (Nat.le_of_ble_eq_true rfl) rfl (fun X hX hR => ?_)
  have hsl := hσ.1
  have hg6 := hσ.2.1
  have hP := hσ.2.2.1
  have hE := hσ.2.2.2.1
  have hpb6 := hP.1
  have hpL9 := hP.2.1
  have hn4 := hE.1
  have hT6 := hE.2.2.2.2.1
  have hep := hE.2.2.2.2.2.2.2
  have hbk := hE.2.2.2.2.2.2.1
  have hs1 := hσ.2.2.2.2.2.1
  have hs2 := hσ.2.2.2.2.2.2.1
  have hs3 := hσ.2.2.2.2.2.2.2.1
  have hbd := hσ.2.2.2.2.2.2.2.2.1
  have hρ : RuOK (sr σ) := rho_OK hP hE
  have ht : tk (sr σ) (st σ) := rho_tk hE
  have hrb : rb (sr σ) = pb (sP σ) := rfl
  have hrn : rn (sr σ) = en (sE σ) := rfl
  have hrl : rl (sr σ) = pL (sP σ) := rfl
  have hm : mR f r (sr σ) := mR_of h.2.1 h.2.2.1
  refine zg_aload_n hX 0 rfl dX10_blank_0 rfl 1 rfl ?_
  refine mg_0_1 hX mw_642 (sl σ : Int) h.1.1 dX10_blank_1 4 rfl ?_
  refine zg_istore_n hX [(1, .int (zI (sl σ : Int))), (0, .ref (q 0))] dX10_blank_4 rfl (by decide) rfl 5 rfl ?_
  refine zg_aload_n hX 1 rfl dX10_blank_5 rfl 6 rfl ?_
  refine zg_iconst hX dX10_blank_6 7 rfl ?_
  refine mp_0_1 hX mw_642 dX10_blank_7 10 rfl ?_
  refine zg_iload_n hX 0 rfl dX10_blank_10 rfl 11 rfl ?_
  exact zg_iret hX hR (Nat.le_refl _) (Nat.le_refl _) rfl dX10_blank_11 (qM_ret rfl ⟨⟨rfl, fun k hk => absurd hk (Nat.not_lt_zero k)⟩, h.2⟩)
-- Model.player
set_option maxRecDepth 20000 in
theorem c_X10_player (l : Launch) (D : va_G) (cI : ClassId) (q : Nat → Nat) (f : Nat → Int) (r : Nat → Nat → Int) (σ : Sg) (B : Nat) (a b : Int) (hσ : sOK σ B) (hB : B ≤ 100) (h : MRel f r σ) (ha : -2147483648 ≤ a ∧ a < 2147483648) (hb : -2147483648 ≤ b ∧ b < 2147483648) : Cn l D cI yX10_player cX10_player 3 (some .int) 1 0 0 [.ref (q 0), .int (zI a), .int (zI b)] (mW cI q f r) (qM cI q (o_player σ a b)) := by
  refine Cn.of [(0, .ref (q 0)), (1, .int (zI a)), (2, .int (zI b))] (by decide +kernel) (Nat.le_of_ble_eq_true rfl) rfl (fun X hX hR => ?_)
  have hsl := hσ.1
  have hg6 := hσ.2.1
  have hP := hσ.2.2.1
  have hE := hσ.2.2.2.1
  have hpb6 := hP.1
  have hpL9 := hP.2.1
  have hn4 := hE.1
  have hT6 := hE.2.2.2.2.1
  have hep := hE.2.2.2.2.2.2.2
  have hbk := hE.2.2.2.2.2.2.1
  have hs1 := hσ.2.2.2.2.2.1
  have hs2 := hσ.2.2.2.2.2.2.1
  have hs3 := hσ.2.2.2.2.2.2.2.1
  have hbd := hσ.2.2.2.2.2.2.2.2.1
  have hρ : RuOK (sr σ) := rho_OK hP hE
  have ht : tk (sr σ) (st σ) := rho_tk hE
  have hrb : rb (sr σ) = pb (sP σ) := rfl
  have hrn : rn (sr σ) = en (sE σ) := rfl
  have hrl : rl (sr σ) = pL (sP σ) := rfl
  have hm : mR f r (sr σ) := mR_of h.2.1 h.2.2.1
  refine zg_iload_n hX 1 rfl dX10_player_0 rfl 1 rfl ?_
  refine zg_i2l hX (by omega) dX10_player_1 2 rfl ?_
  refine zg_lconst (a := 0) hX (by decide) dX10_player_2 3 rfl ?_
  refine zg_ldc2 (a := 4) hX mw_768 (by decide) dX10_player_3 6 rfl ?_
  refine zg_callSi (As := [.long (zL a), .long (zL 0), .long (zL 4)]) (rest := []) hX (c_X10_in l D cI _ a 0 4 (by omega) (by omega) (by omega)) mw_746 mw_747 mw_10 mw_748 sg_X10_in.2 (by decide) (by decide) (Nat.le_refl _) (Nat.le_refl _) rfl (Nat.le_of_ble_eq_true rfl) dX10_player_6 9 rfl ?_
  refine zg_ifb_eq hX dX10_player_9 24 (by decide) 12 rfl (fun h9 => ?_) (fun h9 => ?_)
  · have h9a := of_decide_eq_false h9
    refine zg_bipush hX dX10_player_24 26 rfl (by decide) ?_
    exact zg_iret hX hR (Nat.le_refl _) (Nat.le_refl _) rfl dX10_player_26 (qM_ret (by unfold o_player; rw [if_pos (by omega)]) h)
  · have h9a := of_decide_eq_true h9
    refine zg_iload_n hX 2 rfl dX10_player_12 rfl 13 rfl ?_
    refine zg_i2l hX (by omega) dX10_player_13 14 rfl ?_
    refine zg_lconst (a := 0) hX (by decide) dX10_player_14 15 rfl ?_
    refine zg_ldc2 (a := 9) hX mw_769 (by decide) dX10_player_15 18 rfl ?_
    refine zg_callSi (As := [.long (zL b), .long (zL 0), .long (zL 9)]) (rest := []) hX (c_X10_in l D cI _ b 0 9 (by omega) (by omega) (by omega)) mw_746 mw_747 mw_10 mw_748 sg_X10_in.2 (by decide) (by decide) (Nat.le_refl _) (Nat.le_refl _) rfl (Nat.le_of_ble_eq_true rfl) dX10_player_18 21 rfl ?_
    refine zg_ifb_ne hX dX10_player_21 27 (by decide) 24 rfl (fun h21 => ?_) (fun h21 => ?_)
    · have h21a := of_decide_eq_true h21
      refine zg_aload_n hX 0 rfl dX10_player_27 rfl 28 rfl ?_
      refine zg_callVi (As := []) (rest := []) (k0 := 0) (ci := 9) hX (c_X10_lacks l D cI q f r (sr σ) hρ hm) mw_781 mw_783 mw_s14 mw_10 mw_784 sg_X10_lacks (by decide) (by decide) (Nat.le_refl _) (Nat.le_refl _) rfl rfl rfl (Nat.le_of_ble_eq_true rfl) dX10_player_28 31 rfl ?_
      refine zg_ifb_eq hX dX10_player_31 37 (by decide) 34 rfl (fun h31 => ?_) (fun h31 => ?_)
      · have hlk := of_decide_eq_false h31
        refine zg_aload_n hX 0 rfl dX10_player_37 rfl 38 rfl ?_
        refine mg_0_12 hX mw_653 (en (sE σ) : Int) h.2.2.1.1 dX10_player_38 41 rfl ?_
        refine zg_iconst hX dX10_player_41 42 rfl ?_
        refine zg_icmp_ne hX (by omega) (by omega) dX10_player_42 48 (by decide) 45 rfl (fun h42 => ?_) (fun h42 => ?_)
        · refine zg_aload_n hX 0 rfl dX10_player_48 rfl 49 rfl ?_
          refine mg_0_13 hX mw_654 dX10_player_49 52 rfl ?_
          refine zg_iconst hX dX10_player_52 53 rfl ?_
          refine zg_aload_n hX 0 rfl dX10_player_53 rfl 54 rfl ?_
          refine mg_0_12 hX mw_653 (en (sE σ) : Int) h.2.2.1.1 dX10_player_54 57 rfl ?_
          refine zg_imul hX dX10_player_57 58 rfl ?_
          refine zg_iload_n hX 1 rfl dX10_player_58 rfl 59 rfl ?_
          refine ms_4 hX (4 * en (sE σ)) (by omega) (by omega) dX10_player_59 60 rfl ?_
          refine zg_aload_n hX 0 rfl dX10_player_60 rfl 61 rfl ?_
          refine mg_0_13 hX mw_654 dX10_player_61 64 rfl ?_
          refine zg_iconst hX dX10_player_64 65 rfl ?_
          refine zg_aload_n hX 0 rfl dX10_player_65 rfl 66 rfl ?_
          refine mg_0_12 hX mw_653 (en (sE σ) : Int) h.2.2.1.1 dX10_player_66 69 rfl ?_
          refine zg_imul hX dX10_player_69 70 rfl ?_
          refine zg_iconst hX dX10_player_70 71 rfl ?_
          refine zg_iadd hX dX10_player_71 72 rfl ?_
          refine zg_iload_n hX 2 rfl dX10_player_72 rfl 73 rfl ?_
          refine ms_4 hX (4 * en (sE σ) + 1) (by omega) (by omega) dX10_player_73 74 rfl ?_
          refine zg_aload_n hX 0 rfl dX10_player_74 rfl 75 rfl ?_
          refine mg_0_13 hX mw_654 dX10_player_75 78 rfl ?_
          refine zg_iconst hX dX10_player_78 79 rfl ?_
          refine zg_aload_n hX 0 rfl dX10_player_79 rfl 80 rfl ?_
          refine mg_0_12 hX mw_653 (en (sE σ) : Int) h.2.2.1.1 dX10_player_80 83 rfl ?_
          refine zg_imul hX dX10_player_83 84 rfl ?_
          refine zg_iconst hX dX10_player_84 85 rfl ?_
          refine zg_iadd hX dX10_player_85 86 rfl ?_
          refine zg_iconst hX dX10_player_86 87 rfl ?_
          refine ms_4 hX (4 * en (sE σ) + 2) (by omega) (by omega) dX10_player_87 88 rfl ?_
          refine zg_aload_n hX 0 rfl dX10_player_88 rfl 89 rfl ?_
          refine mg_0_13 hX mw_654 dX10_player_89 92 rfl ?_
          refine zg_iconst hX dX10_player_92 93 rfl ?_
          refine zg_aload_n hX 0 rfl dX10_player_93 rfl 94 rfl ?_
          refine mg_0_12 hX mw_653 (en (sE σ) : Int) h.2.2.1.1 dX10_player_94 97 rfl ?_
          refine zg_imul hX dX10_player_97 98 rfl ?_
          refine zg_iconst hX dX10_player_98 99 rfl ?_
          refine zg_iadd hX dX10_player_99 100 rfl ?_
          refine zg_iconst hX dX10_player_100 101 rfl ?_
          refine ms_4 hX (4 * en (sE σ) + 3) (by omega) (by omega) dX10_player_101 102 rfl ?_
          refine zg_aload_n hX 0 rfl dX10_player_102 rfl 103 rfl ?_
          refine zg_dup hX rfl dX10_player_103 104 rfl ?_
          refine mg_0_12 hX mw_653 (en (sE σ) : Int) h.2.2.1.1 dX10_player_104 107 rfl ?_
          refine zg_iconst hX dX10_player_107 108 rfl ?_
          refine zg_iadd hX dX10_player_108 109 rfl ?_
          refine mp_0_12 hX mw_653 dX10_player_109 112 rfl ?_
          refine zg_aload_n hX 0 rfl dX10_player_112 rfl 113 rfl ?_
          refine mg_0_12 hX mw_653 ((en (sE σ) : Int) + 1) rfl dX10_player_113 116 rfl ?_
          refine zg_iconst hX dX10_player_116 117 rfl ?_
          refine zg_isub hX dX10_player_117 118 rfl ?_
          have e118 : (((en (sE σ) : Int) + 1) - 1 : Int) = (en (sE σ) : Int) := by omega
          refine zg_to (lv2 := [(0, .ref (q 0)), (1, .int (zI a)), (2, .int (zI b))]) (ws2 := (mW cI q (pu f 9 ((en (sE σ) : Int) + 1)) (pu (pu (pu (pu r 3 (pu (r 3) (4 * en (sE σ)) a)) 3 (pu (pu (r 3) (4 * en (sE σ)) a) (4 * en (sE σ) + 1) b)) 3 (pu (pu (pu (r 3) (4 * en (sE σ)) a) (4 * en (sE σ) + 1) b) (4 * en (sE σ) + 2) 0)) 3 (pu (pu (pu (pu (r 3) (4 * en (sE σ)) a) (4 * en (sE σ) + 1) b) (4 * en (sE σ) + 2) 0) (4 * en (sE σ) + 3) 0)))) (st2 := [.int (zI (en (sE σ) : Int))]) ?_ rfl rfl (by first | (rw [e118]; done) | (rw [← e118]; done))
          exact zg_iret hX hR (Nat.le_refl _) (Nat.le_refl _) rfl dX10_player_118 (qM_ret (by unfold o_player; rw [if_neg (by omega), if_neg (by omega), if_neg (by omega)]) (m_player h (by omega) (by omega)))
        · refine zg_bipush hX dX10_player_45 47 rfl (by decide) ?_
          exact zg_iret hX hR (Nat.le_refl _) (Nat.le_refl _) rfl dX10_player_47 (qM_ret (by unfold o_player; rw [if_neg (by omega), if_neg (by omega), if_pos (by omega)]) h)
      · have hlk := of_decide_eq_true h31
        refine zg_bipush hX dX10_player_34 36 rfl (by decide) ?_
        exact zg_iret hX hR (Nat.le_refl _) (Nat.le_refl _) rfl dX10_player_36 (qM_ret (by unfold o_player; rw [if_neg (by omega), if_pos (by omega)]) h)
    · have h21a := of_decide_eq_false h21
      refine zg_bipush hX dX10_player_24 26 rfl (by decide) ?_
      exact zg_iret hX hR (Nat.le_refl _) (Nat.le_refl _) rfl dX10_player_26 (qM_ret (by unfold o_player; rw [if_pos (by omega)]) h)
-- Model.toldOf
set_option maxRecDepth 20000 in
theorem c_X10_toldOf (l : Launch) (D : va_G) (cI : ClassId) (q : Nat → Nat) (f : Nat → Int) (r : Nat → Nat → Int) (σ : Sg) (B : Nat) (b : Nat) (hσ : sOK σ B) (hB : B ≤ 100) (h : MRel f r σ) (hb : b < 6) : Cn l D cI yX10_toldOf cX10_toldOf 4 (some .int) 0 0 0 [.ref (q 0), .int (zI (b : Int))] (mW cI q f r) (pI (ltl (eb (sE σ)) (el (sE σ)) b (eT (sE σ))) (mW cI q f r)) := by
  refine Cn.of [(0, .ref (q 0)), (1, .int (zI (b : Int)))] (by decide +kernel) (Nat.le_of_ble_eq_true rfl) rfl (fun X hX hR => ?_)
  have hsl := hσ.1
  have hg6 := hσ.2.1
  have hP := hσ.2.2.1
  have hE := hσ.2.2.2.1
  have hpb6 := hP.1
  have hpL9 := hP.2.1
  have hn4 := hE.1
  have hT6 := hE.2.2.2.2.1
  have hep := hE.2.2.2.2.2.2.2
  have hbk := hE.2.2.2.2.2.2.1
  have hs1 := hσ.2.2.2.2.2.1
  have hs2 := hσ.2.2.2.2.2.2.1
  have hs3 := hσ.2.2.2.2.2.2.2.1
  have hbd := hσ.2.2.2.2.2.2.2.2.1
  have hρ : RuOK (sr σ) := rho_OK hP hE
  have ht : tk (sr σ) (st σ) := rho_tk hE
  have hrb : rb (sr σ) = pb (sP σ) := rfl
  have hrn : rn (sr σ) = en (sE σ) := rfl
  have hrl : rl (sr σ) = pL (sP σ) := rfl
  have hm : mR f r (sr σ) := mR_of h.2.1 h.2.2.1
  refine zg_iconst hX dX10_toldOf_0 1 rfl ?_
  refine zg_istore_n hX [(2, .int (zI (-1))), (0, .ref (q 0)), (1, .int (zI (b : Int)))] dX10_toldOf_1 rfl (by decide) rfl 2 rfl ?_
  refine zg_iconst hX dX10_toldOf_2 3 rfl ?_
  refine zg_istore_n hX [(3, .int (zI 0)), (2, .int (zI (-1))), (0, .ref (q 0)), (1, .int (zI (b : Int)))] dX10_toldOf_3 rfl (by decide) rfl 4 rfl ?_
  have L4 : ∀ (fuel : Nat) (k : Nat) (x4_2 : Int) (x4_3 : Int), (eT (sE σ) - k < fuel) → (k ≤ eT (sE σ)) → x4_2 = (ltl (eb (sE σ)) (el (sE σ)) b k) → x4_3 = (k : Int) → G X 4 0 0 (mW cI q f r) [(0, .ref (q 0)), (1, .int (zI (b : Int))), (2, .int (zI x4_2)), (3, .int (zI x4_3))] 4 [] := by
    intro fuel
    induction fuel with
    | zero =>
      intro k x4_2 x4_3 hm4
      exact absurd hm4 (Nat.not_lt_zero _)
    | succ fuel ih4 =>
      intro k x4_2 x4_3 hm4 hk ex4_2 ex4_3
      subst ex4_2
      subst ex4_3
      refine zg_iload_n hX 3 rfl dX10_toldOf_4 rfl 5 rfl ?_
      refine zg_aload_n hX 0 rfl dX10_toldOf_5 rfl 6 rfl ?_
      refine mg_0_14 hX mw_655 (eT (sE σ) : Int) h.2.2.1.2.2.2.1 dX10_toldOf_6 9 rfl ?_
      refine zg_icmp_ge hX (by omega) (by omega) dX10_toldOf_9 45 (by decide) 12 rfl (fun h9 => ?_) (fun h9 => ?_)
      · refine zg_iload_n hX 2 rfl dX10_toldOf_45 rfl 46 rfl ?_
        exact zg_iret hX hR (Nat.le_refl _) (Nat.le_refl _) rfl dX10_toldOf_46 (pI_of (by rw [show k = eT (sE σ) by omega]))
      · refine zg_aload_n hX 0 rfl dX10_toldOf_12 rfl 13 rfl ?_
        refine mg_0_15 hX mw_656 dX10_toldOf_13 16 rfl ?_
        refine zg_iconst hX dX10_toldOf_16 17 rfl ?_
        refine zg_iload_n hX 3 rfl dX10_toldOf_17 rfl 18 rfl ?_
        refine zg_imul hX dX10_toldOf_18 19 rfl ?_
        refine ma_5 hX (2 * k) (eb (sE σ) k : Int) (by omega) (by omega) (h.2.2.1.2.2.2.2.2.2.2.2.1 k (by omega)) dX10_toldOf_19 20 rfl ?_
        have hbk1 := hbk k (by omega)
        refine zg_iload_n hX 1 rfl dX10_toldOf_20 rfl 21 rfl ?_
        have J38 : ∀ xj : Int, xj = (ltl (eb (sE σ)) (el (sE σ)) b (k + 1)) → G X 4 0 0 (mW cI q f r) [(0, .ref (q 0)), (1, .int (zI (b : Int))), (2, .int (zI (ltl (eb (sE σ)) (el (sE σ)) b k))), (3, .int (zI (k : Int)))] 38 [.int (zI xj)] := by
          intro xj hx38
          subst hx38
          refine zg_istore_n hX [(2, .int (zI (ltl (eb (sE σ)) (el (sE σ)) b (k + 1)))), (0, .ref (q 0)), (1, .int (zI (b : Int))), (3, .int (zI (k : Int)))] dX10_toldOf_38 rfl (by decide) rfl 39 rfl ?_
          refine zg_iinc hX [(3, .int (zI ((k : Int) + 1))), (2, .int (zI (ltl (eb (sE σ)) (el (sE σ)) b (k + 1)))), (0, .ref (q 0)), (1, .int (zI (b : Int)))] 3 rfl dX10_toldOf_39 (by decide) rfl 42 rfl ?_
          refine zg_goto hX dX10_toldOf_42 4 (by decide) ?_
          exact zg_lv _ [2, 3, 1, 0] rfl (ih4 (k + 1) _ _ (by omega) (by omega) (rfl) (by omega))
        refine zg_icmp_ne hX (by omega) (by omega) dX10_toldOf_21 37 (by decide) 24 rfl (fun h21 => ?_) (fun h21 => ?_)
        · refine zg_iload_n hX 2 rfl dX10_toldOf_37 rfl 38 rfl ?_
          exact J38 _ (by simp only [ltl]; first | (rw [if_pos (by omega)]; done) | (rw [if_neg (by omega)]; done))
        · refine zg_aload_n hX 0 rfl dX10_toldOf_24 rfl 25 rfl ?_
          refine mg_0_15 hX mw_656 dX10_toldOf_25 28 rfl ?_
          refine zg_iconst hX dX10_toldOf_28 29 rfl ?_
          refine zg_iload_n hX 3 rfl dX10_toldOf_29 rfl 30 rfl ?_
          refine zg_imul hX dX10_toldOf_30 31 rfl ?_
          refine zg_iconst hX dX10_toldOf_31 32 rfl ?_
          refine zg_iadd hX dX10_toldOf_32 33 rfl ?_
          refine ma_5 hX (2 * k + 1) (el (sE σ) k : Int) (by omega) (by omega) (h.2.2.1.2.2.2.2.2.2.2.2.2 k (by omega)) dX10_toldOf_33 34 rfl ?_
          refine zg_goto hX dX10_toldOf_34 38 (by decide) ?_
          exact J38 _ (by simp only [ltl]; first | (rw [if_pos (by omega)]; done) | (rw [if_neg (by omega)]; done))
  exact zg_lv _ [2, 3, 1, 0] rfl (L4 _ 0 _ _ (Nat.lt_succ_self _) (by omega) (rfl) (rfl))
-- Model.tellBar
set_option maxRecDepth 20000 in
theorem c_X10_tellBar (l : Launch) (D : va_G) (cI : ClassId) (q : Nat → Nat) (f : Nat → Int) (r : Nat → Nat → Int) (σ : Sg) (B : Nat) (b : Nat) (w : Int) (hσ : sOK σ B) (hB : B ≤ 100) (h : MRel f r σ) (hb : b < pb (sP σ)) (hw : -2147483648 ≤ w ∧ w < 2147483648) : Cn l D cI yX10_tellBar cX10_tellBar 3 (some .int) 7 0 0 [.ref (q 0), .int (zI (b : Int)), .int (zI w)] (mW cI q f r) (pR (mW cI q f) (fun v r1 => v = some (.int (zI (if 0 ≤ w ∧ w ≤ 3 then tellB σ b w else -102))) ∧ frR r r1)) := by
  refine Cn.of [(0, .ref (q 0)), (1, .int (zI (b : Int))), (2, .int (zI w))] (by decide +kernel) (Nat.le_of_ble_eq_true rfl) rfl (fun X hX hR => ?_)
  have hsl := hσ.1
  have hg6 := hσ.2.1
  have hP := hσ.2.2.1
  have hE := hσ.2.2.2.1
  have hpb6 := hP.1
  have hpL9 := hP.2.1
  have hn4 := hE.1
  have hT6 := hE.2.2.2.2.1
  have hep := hE.2.2.2.2.2.2.2
  have hbk := hE.2.2.2.2.2.2.1
  have hs1 := hσ.2.2.2.2.2.1
  have hs2 := hσ.2.2.2.2.2.2.1
  have hs3 := hσ.2.2.2.2.2.2.2.1
  have hbd := hσ.2.2.2.2.2.2.2.2.1
  have hρ : RuOK (sr σ) := rho_OK hP hE
  have ht : tk (sr σ) (st σ) := rho_tk hE
  have hrb : rb (sr σ) = pb (sP σ) := rfl
  have hrn : rn (sr σ) = en (sE σ) := rfl
  have hrl : rl (sr σ) = pL (sP σ) := rfl
  have hm : mR f r (sr σ) := mR_of h.2.1 h.2.2.1
  refine zg_iload_n hX 2 rfl dX10_tellBar_0 rfl 1 rfl ?_
  rcases (show w = 0 ∨ w = 1 ∨ w = 2 ∨ w = 3 ∨ (w < 0 ∨ 3 < w) from by omega) with hs1 | hs1 | hs1 | hs1 | hs1
  · refine zg_tableIn hX (by omega) dX10_tellBar_1 (by omega) (by omega) 0 (by omega) rfl 32 (by decide) ?_
    refine zg_aload_n hX 0 rfl dX10_tellBar_32 rfl 33 rfl ?_
    refine mg_0_11 hX mw_652 dX10_tellBar_33 36 rfl ?_
    refine zg_iconst hX dX10_tellBar_36 37 rfl ?_
    refine zg_iload_n hX 1 rfl dX10_tellBar_37 rfl 38 rfl ?_
    refine zg_imul hX dX10_tellBar_38 39 rfl ?_
    refine zg_iload_n hX 2 rfl dX10_tellBar_39 rfl 40 rfl ?_
    refine zg_iadd hX dX10_tellBar_40 41 rfl ?_
    refine ma_3 hX (2 * b) (ps (sP σ) b : Int) (by omega) (by omega) (h.2.1.2.2.1 b hb) dX10_tellBar_41 42 rfl ?_
    exact zg_iret hX hR (Nat.le_refl _) (Nat.le_refl _) rfl dX10_tellBar_42 (⟨r, rfl, by rw [if_pos (by omega), hs1]; rfl, frR_rf r⟩)
  · refine zg_tableIn hX (by omega) dX10_tellBar_1 (by omega) (by omega) 1 (by omega) rfl 32 (by decide) ?_
    refine zg_aload_n hX 0 rfl dX10_tellBar_32 rfl 33 rfl ?_
    refine mg_0_11 hX mw_652 dX10_tellBar_33 36 rfl ?_
    refine zg_iconst hX dX10_tellBar_36 37 rfl ?_
    refine zg_iload_n hX 1 rfl dX10_tellBar_37 rfl 38 rfl ?_
    refine zg_imul hX dX10_tellBar_38 39 rfl ?_
    refine zg_iload_n hX 2 rfl dX10_tellBar_39 rfl 40 rfl ?_
    refine zg_iadd hX dX10_tellBar_40 41 rfl ?_
    refine ma_3 hX (2 * b + 1) (pp (sP σ) b : Int) (by omega) (by omega) (h.2.1.2.2.2 b hb) dX10_tellBar_41 42 rfl ?_
    exact zg_iret hX hR (Nat.le_refl _) (Nat.le_refl _) rfl dX10_tellBar_42 (⟨r, rfl, by rw [if_pos (by omega), hs1]; rfl, frR_rf r⟩)
  · refine zg_tableIn hX (by omega) dX10_tellBar_1 (by omega) (by omega) 2 (by omega) rfl 43 (by decide) ?_
    refine zg_aload_n hX 0 rfl dX10_tellBar_43 rfl 44 rfl ?_
    refine zg_callV (As := []) (rest := []) (k0 := 0) (ci := 9) hX (c_X10_asItIs l D cI q f r (sr σ) hρ (mR_of h.2.1 h.2.2.1)) mw_797 mw_799 mw_s17 mw_10 mw_800 sg_X10_asItIs (by decide) (by decide) (Nat.le_refl _) (Nat.le_refl _) rfl rfl rfl (Nat.le_of_ble_eq_true rfl) dX10_tellBar_44 47 rfl (fun v44 W44 hp44 => ?_)
    obtain ⟨R44, rfl, rfl, hl44⟩ := hp44
    show G X 3 0 0 (mW cI q f R44) [(0, .ref (q 0)), (1, .int (zI (b : Int))), (2, .int (zI w))] 47 []
    have hx44 : frR r R44 := frR_lay hl44 (by omega)
    have hr44 : MRel f R44 σ := MRel_r h hx44
    have hn44 : ∀ p, p < rn (sr σ) → R44 5 p = (st σ p : Int) := fun p hp => (hl44.2 p hp).trans (h.2.2.1.2.2.2.2.2.1 p hp)
    have hm44 : mR f R44 (sr σ) := mR_of hr44.2.1 hr44.2.2.1
    refine zg_aload_n hX 0 rfl dX10_tellBar_47 rfl 48 rfl ?_
    refine zg_iload_n hX 1 rfl dX10_tellBar_48 rfl 49 rfl ?_
    refine zg_callV (As := [.int (zI (b : Int))]) (rest := []) (k0 := 0) (ci := 9) hX (c_X10_lostIn l D cI q f R44 (sr σ) (st σ) b hρ hm44 hn44 ht hb) mw_801 mw_803 mw_s18 mw_10 mw_804 sg_X10_lostIn (by decide) (by decide) (Nat.le_refl _) (Nat.le_refl _) rfl rfl rfl (Nat.le_of_ble_eq_true rfl) dX10_tellBar_49 52 rfl (fun v49 W49 hp49 => ?_)
    obtain ⟨R49, rfl, rfl, hf49, -⟩ := hp49
    show G X 3 0 0 (mW cI q f R49) [(0, .ref (q 0)), (1, .int (zI (b : Int))), (2, .int (zI w))] 52 [.int (zI (ls (sr σ) (st σ) b : Int))]
    exact zg_iret hX hR (Nat.le_refl _) (Nat.le_refl _) rfl dX10_tellBar_52 (⟨R49, rfl, by rw [if_pos (by omega), hs1]; rfl, hx44.tr (frR_567 hf49)⟩)
  · refine zg_tableIn hX (by omega) dX10_tellBar_1 (by omega) (by omega) 3 (by omega) rfl 53 (by decide) ?_
    refine zg_aload_n hX 0 rfl dX10_tellBar_53 rfl 54 rfl ?_
    refine zg_iload_n hX 1 rfl dX10_tellBar_54 rfl 55 rfl ?_
    refine zg_callVi (As := [.int (zI (b : Int))]) (rest := []) (k0 := 0) (ci := 9) hX (c_X10_toldOf l D cI q f r σ B b hσ hB h (by omega)) mw_832 mw_834 mw_s25 mw_10 mw_835 sg_X10_toldOf (by decide) (by decide) (Nat.le_refl _) (Nat.le_refl _) rfl rfl rfl (Nat.le_of_ble_eq_true rfl) dX10_tellBar_55 58 rfl ?_
    exact zg_iret hX hR (Nat.le_refl _) (Nat.le_refl _) rfl dX10_tellBar_58 (⟨r, rfl, by rw [if_pos (by omega), hs1]; rfl, frR_rf r⟩)
  · refine zg_tableOut hX (by omega) dX10_tellBar_1 (by omega) 59 (by decide) ?_
    refine zg_bipush hX dX10_tellBar_59 61 rfl (by decide) ?_
    exact zg_iret hX hR (Nat.le_refl _) (Nat.le_refl _) rfl dX10_tellBar_61 (⟨r, rfl, by rw [if_neg (by omega)], frR_rf r⟩)
-- Model.bar
set_option maxRecDepth 20000 in
theorem c_X10_bar (l : Launch) (D : va_G) (cI : ClassId) (q : Nat → Nat) (f : Nat → Int) (r : Nat → Nat → Int) (σ : Sg) (B : Nat) (a b : Int) (hσ : sOK σ B) (hB : B ≤ 100) (h : MRel f r σ) (ha : -2147483648 ≤ a ∧ a < 2147483648) (hb : -2147483648 ≤ b ∧ b < 2147483648) : Cn l D cI yX10_bar cX10_bar 3 (some .int) 8 0 0 [.ref (q 0), .int (zI a), .int (zI b)] (mW cI q f r) (qM cI q (o_bar σ a b)) := by
  refine Cn.of [(0, .ref (q 0)), (1, .int (zI a)), (2, .int (zI b))] (by decide +kernel) (Nat.le_of_ble_eq_true rfl) rfl (fun X hX hR => ?_)
  have hsl := hσ.1
  have hg6 := hσ.2.1
  have hP := hσ.2.2.1
  have hE := hσ.2.2.2.1
  have hpb6 := hP.1
  have hpL9 := hP.2.1
  have hn4 := hE.1
  have hT6 := hE.2.2.2.2.1
  have hep := hE.2.2.2.2.2.2.2
  have hbk := hE.2.2.2.2.2.2.1
  have hs1 := hσ.2.2.2.2.2.1
  have hs2 := hσ.2.2.2.2.2.2.1
  have hs3 := hσ.2.2.2.2.2.2.2.1
  have hbd := hσ.2.2.2.2.2.2.2.2.1
  have hρ : RuOK (sr σ) := rho_OK hP hE
  have ht : tk (sr σ) (st σ) := rho_tk hE
  have hrb : rb (sr σ) = pb (sP σ) := rfl
  have hrn : rn (sr σ) = en (sE σ) := rfl
  have hrl : rl (sr σ) = pL (sP σ) := rfl
  have hm : mR f r (sr σ) := mR_of h.2.1 h.2.2.1
  refine zg_aload_n hX 0 rfl dX10_bar_0 rfl 1 rfl ?_
  refine zg_iload_n hX 1 rfl dX10_bar_1 rfl 2 rfl ?_
  refine zg_callVi (As := [.int (zI a)]) (rest := []) (k0 := 0) (ci := 9) hX (c_X10_isBar l D cI q f r (sr σ) a hρ hm ha) mw_789 mw_791 mw_s15 mw_10 mw_792 sg_X10_isBar (by decide) (by decide) (Nat.le_refl _) (Nat.le_refl _) rfl rfl rfl (Nat.le_of_ble_eq_true rfl) dX10_bar_2 5 rfl ?_
  refine zg_ifb_eq hX dX10_bar_5 17 (by decide) 8 rfl (fun h5 => ?_) (fun h5 => ?_)
  · have h5a := of_decide_eq_false h5
    refine zg_bipush hX dX10_bar_17 19 rfl (by decide) ?_
    exact zg_iret hX hR (Nat.le_refl _) (Nat.le_refl _) rfl dX10_bar_19 (by first | exact qM_ret (by unfold o_bar; rw [if_neg (by omega)]) h | exact qM_ret (by unfold o_bar; rw [if_pos (by omega)]) (MRel_r h hf11))
  · have h5a := of_decide_eq_true h5
    have el8_1 : (a : Int) = (a.toNat : Int) := by omega
    refine zg_to (lv2 := [(0, .ref (q 0)), (1, .int (zI (a.toNat : Int))), (2, .int (zI b))]) (ws2 := (mW cI q f r)) (st2 := []) ?_ rfl (by rw [← el8_1]) rfl
    refine zg_aload_n hX 0 rfl dX10_bar_8 rfl 9 rfl ?_
    refine zg_iload_n hX 1 rfl dX10_bar_9 rfl 10 rfl ?_
    refine zg_iload_n hX 2 rfl dX10_bar_10 rfl 11 rfl ?_
    refine zg_callV (As := [.int (zI (a.toNat : Int)), .int (zI b)]) (rest := []) (k0 := 0) (ci := 9) hX (c_X10_tellBar l D cI q f r σ B a.toNat b hσ hB h (by omega) hb) mw_793 mw_795 mw_s16 mw_10 mw_796 sg_X10_tellBar (by decide) (by decide) (Nat.le_refl _) (Nat.le_refl _) rfl rfl rfl (Nat.le_of_ble_eq_true rfl) dX10_bar_11 14 rfl (fun v11 W11 hp11 => ?_)
    obtain ⟨R11, rfl, rfl, hf11⟩ := hp11
    show G X 3 0 0 (mW cI q f R11) [(0, .ref (q 0)), (1, .int (zI (a.toNat : Int))), (2, .int (zI b))] 14 [.int (zI (if 0 ≤ b ∧ b ≤ 3 then tellB σ a.toNat b else -102))]
    refine zg_goto hX dX10_bar_14 19 (by decide) ?_
    exact zg_iret hX hR (Nat.le_refl _) (Nat.le_refl _) rfl dX10_bar_19 (by first | exact qM_ret (by unfold o_bar; rw [if_neg (by omega)]) h | exact qM_ret (by unfold o_bar; rw [if_pos (by omega)]) (MRel_r h hf11))
-- Model.takesNext
set_option maxRecDepth 20000 in
theorem c_X10_takesNext (l : Launch) (D : va_G) (cI : ClassId) (q : Nat → Nat) (f : Nat → Int) (r : Nat → Nat → Int) (σ : Sg) (B : Nat) (p : Nat) (hσ : sOK σ B) (hB : B ≤ 100) (h : MRel f r σ) (hn : ∀ p, p < rn (sr σ) → r 5 p = (st σ p : Int)) (hp : p < en (sE σ)) : Cn l D cI yX10_takesNext cX10_takesNext 3 (some .int) 5 0 0 [.ref (q 0), .int (zI (p : Int))] (mW cI q f r) (pR (mW cI q f) (fun v r1 => v = some (.int (zI ((shn σ p : Int)))) ∧ frR r r1)) := by
  refine Cn.of [(0, .ref (q 0)), (1, .int (zI (p : Int)))] (by decide +kernel) (Nat.le_of_ble_eq_true rfl) rfl (fun X hX hR => ?_)
  have hsl := hσ.1
  have hg6 := hσ.2.1
  have hP := hσ.2.2.1
  have hE := hσ.2.2.2.1
  have hpb6 := hP.1
  have hpL9 := hP.2.1
  have hn4 := hE.1
  have hT6 := hE.2.2.2.2.1
  have hep := hE.2.2.2.2.2.2.2
  have hbk := hE.2.2.2.2.2.2.1
  have hs1 := hσ.2.2.2.2.2.1
  have hs2 := hσ.2.2.2.2.2.2.1
  have hs3 := hσ.2.2.2.2.2.2.2.1
  have hbd := hσ.2.2.2.2.2.2.2.2.1
  have hρ : RuOK (sr σ) := rho_OK hP hE
  have ht : tk (sr σ) (st σ) := rho_tk hE
  have hrb : rb (sr σ) = pb (sP σ) := rfl
  have hrn : rn (sr σ) = en (sE σ) := rfl
  have hrl : rl (sr σ) = pL (sP σ) := rfl
  have hm : mR f r (sr σ) := mR_of h.2.1 h.2.2.1
  refine zg_aload_n hX 0 rfl dX10_takesNext_0 rfl 1 rfl ?_
  refine mg_0_8 hX mw_649 (ep (sE σ) : Int) h.2.2.1.2.1 dX10_takesNext_1 4 rfl ?_
  refine zg_aload_n hX 0 rfl dX10_takesNext_4 rfl 5 rfl ?_
  refine mg_0_6 hX mw_647 (pb (sP σ) : Int) h.2.1.1 dX10_takesNext_5 8 rfl ?_
  refine zg_icmp_ne hX (by omega) (by omega) dX10_takesNext_8 13 (by decide) 11 rfl (fun h8 => ?_) (fun h8 => ?_)
  · refine zg_aload_n hX 0 rfl dX10_takesNext_13 rfl 14 rfl ?_
    refine zg_aload_n hX 0 rfl dX10_takesNext_14 rfl 15 rfl ?_
    refine mg_0_8 hX mw_649 (ep (sE σ) : Int) h.2.2.1.2.1 dX10_takesNext_15 18 rfl ?_
    refine zg_callV (As := [.int (zI (ep (sE σ) : Int))]) (rest := []) (k0 := 0) (ci := 9) hX (c_X10_layTakes l D cI q f r (sr σ) (st σ) (ep (sE σ)) hρ hm hn ht (by omega)) mw_809 mw_811 mw_s20 mw_10 mw_812 sg_X10_layTakes (by decide) (by decide) (Nat.le_refl _) (Nat.le_refl _) rfl rfl rfl (Nat.le_of_ble_eq_true rfl) dX10_takesNext_18 21 rfl (fun v18 W18 hp18 => ?_)
    obtain ⟨R18, rfl, rfl, hf18, hs18⟩ := hp18
    show G X 3 0 0 (mW cI q f R18) [(0, .ref (q 0)), (1, .int (zI (p : Int)))] 21 [.int (zI (lo (sr σ) (ep (sE σ)) (st σ) : Int))]
    refine zg_istore_n hX [(2, .int (zI (lo (sr σ) (ep (sE σ)) (st σ) : Int))), (0, .ref (q 0)), (1, .int (zI (p : Int)))] dX10_takesNext_21 rfl (by decide) rfl 22 rfl ?_
    refine zg_aload_n hX 1 rfl dX10_takesNext_22 rfl 23 rfl ?_
    refine mg_0_17 hX mw_658 dX10_takesNext_23 26 rfl ?_
    refine zg_iload_n hX 2 rfl dX10_takesNext_26 rfl 27 rfl ?_
    refine ma_7 hX p (sh (sr σ) (ep (sE σ)) (st σ) p : Int) (by omega) (by omega) (hs18 p (by omega)) dX10_takesNext_27 28 rfl ?_
    exact zg_iret hX hR (Nat.le_refl _) (Nat.le_refl _) rfl dX10_takesNext_28 (⟨R18, rfl, by unfold shn; rw [if_pos (by omega)], frR_1 hf18 (by omega)⟩)
  · refine zg_iconst hX dX10_takesNext_11 12 rfl ?_
    exact zg_iret hX hR (Nat.le_refl _) (Nat.le_refl _) rfl dX10_takesNext_12 (⟨r, rfl, by unfold shn; rw [if_neg (by omega)]; rfl, frR_rf r⟩)
-- Model.tellPlayer
set_option maxRecDepth 20000 in
theorem c_X10_tellPlayer (l : Launch) (D : va_G) (cI : ClassId) (q : Nat → Nat) (f : Nat → Int) (r : Nat → Nat → Int) (σ : Sg) (B : Nat) (p : Nat) (w : Int) (hσ : sOK σ B) (hB : B ≤ 100) (h : MRel f r σ) (hp : p < en (sE σ)) (hw : -2147483648 ≤ w ∧ w < 2147483648) : Cn l D cI yX10_tellPlayer cX10_tellPlayer 3 (some .int) 6 0 0 [.ref (q 0), .int (zI (p : Int)), .int (zI w)] (mW cI q f r) (pR (mW cI q f) (fun v r1 => v = some (.int (zI (if 0 ≤ w ∧ w ≤ 6 then tellP σ p w else -102))) ∧ frR r r1)) := by
  refine Cn.of [(0, .ref (q 0)), (1, .int (zI (p : Int))), (2, .int (zI w))] (by decide +kernel) (Nat.le_of_ble_eq_true rfl) rfl (fun X hX hR => ?_)
  have hsl := hσ.1
  have hg6 := hσ.2.1
  have hP := hσ.2.2.1
  have hE := hσ.2.2.2.1
  have hpb6 := hP.1
  have hpL9 := hP.2.1
  have hn4 := hE.1
  have hT6 := hE.2.2.2.2.1
  have hep := hE.2.2.2.2.2.2.2
  have hbk := hE.2.2.2.2.2.2.1
  have hs1 := hσ.2.2.2.2.2.1
  have hs2 := hσ.2.2.2.2.2.2.1
  have hs3 := hσ.2.2.2.2.2.2.2.1
  have hbd := hσ.2.2.2.2.2.2.2.2.1
  have hρ : RuOK (sr σ) := rho_OK hP hE
  have ht : tk (sr σ) (st σ) := rho_tk hE
  have hrb : rb (sr σ) = pb (sP σ) := rfl
  have hrn : rn (sr σ) = en (sE σ) := rfl
  have hrl : rl (sr σ) = pL (sP σ) := rfl
  have hm : mR f r (sr σ) := mR_of h.2.1 h.2.2.1
  refine zg_aload_n hX 0 rfl dX10_tellPlayer_0 rfl 1 rfl ?_
  refine zg_callV (As := []) (rest := []) (k0 := 0) (ci := 9) hX (c_X10_asItIs l D cI q f r (sr σ) hρ (mR_of h.2.1 h.2.2.1)) mw_797 mw_799 mw_s17 mw_10 mw_800 sg_X10_asItIs (by decide) (by decide) (Nat.le_refl _) (Nat.le_refl _) rfl rfl rfl (Nat.le_of_ble_eq_true rfl) dX10_tellPlayer_1 4 rfl (fun v1 W1 hp1 => ?_)
  obtain ⟨R1, rfl, rfl, hl1⟩ := hp1
  show G X 3 0 0 (mW cI q f R1) [(0, .ref (q 0)), (1, .int (zI (p : Int))), (2, .int (zI w))] 4 []
  have hx1 : frR r R1 := frR_lay hl1 (by omega)
  have hr1 : MRel f R1 σ := MRel_r h hx1
  have hn1 : ∀ p, p < rn (sr σ) → R1 5 p = (st σ p : Int) := fun p hp => (hl1.2 p hp).trans (h.2.2.1.2.2.2.2.2.1 p hp)
  have hm1 : mR f R1 (sr σ) := mR_of hr1.2.1 hr1.2.2.1
  refine zg_iload_n hX 2 rfl dX10_tellPlayer_4 rfl 5 rfl ?_
  rcases (show w = 0 ∨ w = 1 ∨ w = 2 ∨ w = 3 ∨ w = 4 ∨ w = 5 ∨ w = 6 ∨ (w < 0 ∨ 6 < w) from by omega) with hs5 | hs5 | hs5 | hs5 | hs5 | hs5 | hs5 | hs5
  · refine zg_tableIn hX (by omega) dX10_tellPlayer_5 (by omega) (by omega) 0 (by omega) rfl 48 (by decide) ?_
    refine zg_aload_n hX 0 rfl dX10_tellPlayer_48 rfl 49 rfl ?_
    refine mg_0_13 hX mw_654 dX10_tellPlayer_49 52 rfl ?_
    refine zg_iconst hX dX10_tellPlayer_52 53 rfl ?_
    refine zg_iload_n hX 1 rfl dX10_tellPlayer_53 rfl 54 rfl ?_
    refine zg_imul hX dX10_tellPlayer_54 55 rfl ?_
    refine zg_iload_n hX 2 rfl dX10_tellPlayer_55 rfl 56 rfl ?_
    refine zg_iadd hX dX10_tellPlayer_56 57 rfl ?_
    refine ma_4 hX (4 * p) (ek (sE σ) p : Int) (by omega) (by omega) (hr1.2.2.1.2.2.2.2.1 p hp) dX10_tellPlayer_57 58 rfl ?_
    exact zg_iret hX hR (Nat.le_refl _) (Nat.le_refl _) rfl dX10_tellPlayer_58 (⟨R1, rfl, by rw [if_pos (by omega), hs5]; rfl, hx1⟩)
  · refine zg_tableIn hX (by omega) dX10_tellPlayer_5 (by omega) (by omega) 1 (by omega) rfl 48 (by decide) ?_
    refine zg_aload_n hX 0 rfl dX10_tellPlayer_48 rfl 49 rfl ?_
    refine mg_0_13 hX mw_654 dX10_tellPlayer_49 52 rfl ?_
    refine zg_iconst hX dX10_tellPlayer_52 53 rfl ?_
    refine zg_iload_n hX 1 rfl dX10_tellPlayer_53 rfl 54 rfl ?_
    refine zg_imul hX dX10_tellPlayer_54 55 rfl ?_
    refine zg_iload_n hX 2 rfl dX10_tellPlayer_55 rfl 56 rfl ?_
    refine zg_iadd hX dX10_tellPlayer_56 57 rfl ?_
    refine ma_4 hX (4 * p + 1) (st σ p : Int) (by omega) (by omega) (hr1.2.2.1.2.2.2.2.2.1 p hp) dX10_tellPlayer_57 58 rfl ?_
    exact zg_iret hX hR (Nat.le_refl _) (Nat.le_refl _) rfl dX10_tellPlayer_58 (⟨R1, rfl, by rw [if_pos (by omega), hs5]; rfl, hx1⟩)
  · refine zg_tableIn hX (by omega) dX10_tellPlayer_5 (by omega) (by omega) 2 (by omega) rfl 59 (by decide) ?_
    refine zg_aload_n hX 0 rfl dX10_tellPlayer_59 rfl 60 rfl ?_
    refine zg_iload_n hX 1 rfl dX10_tellPlayer_60 rfl 61 rfl ?_
    refine zg_callVi (As := [.int (zI (p : Int))]) (rest := []) (k0 := 0) (ci := 9) hX (c_X10_isAwake l D cI q f R1 (sr σ) (st σ) (p : Int) hρ hm1 hn1 ht (by omega)) mw_817 mw_819 mw_s22 mw_10 mw_820 sg_X10_isAwake (by decide) (by decide) (Nat.le_refl _) (Nat.le_refl _) rfl rfl rfl (Nat.le_of_ble_eq_true rfl) dX10_tellPlayer_61 64 rfl ?_
    refine zg_ifb_eq hX dX10_tellPlayer_64 71 (by decide) 67 rfl (fun h64 => ?_) (fun h64 => ?_)
    · have hres : aw (sr σ) (st σ) p = false := by rw [show ((p : Int)).toNat = p by omega] at h64; simpa using h64
      refine zg_iconst hX dX10_tellPlayer_71 72 rfl ?_
      exact zg_iret hX hR (Nat.le_refl _) (Nat.le_refl _) rfl dX10_tellPlayer_72 (⟨R1, rfl, by rw [if_pos (by omega), hs5]; show _ = some (Value.int (zI (b2 (aw (sr σ) (st σ) p)))); rw [hres]; rfl, hx1⟩)
    · have hres : aw (sr σ) (st σ) p = true := by rw [show ((p : Int)).toNat = p by omega] at h64; simpa using h64
      refine zg_iconst hX dX10_tellPlayer_67 68 rfl ?_
      refine zg_goto hX dX10_tellPlayer_68 72 (by decide) ?_
      exact zg_iret hX hR (Nat.le_refl _) (Nat.le_refl _) rfl dX10_tellPlayer_72 (⟨R1, rfl, by rw [if_pos (by omega), hs5]; show _ = some (Value.int (zI (b2 (aw (sr σ) (st σ) p)))); rw [hres]; rfl, hx1⟩)
  · refine zg_tableIn hX (by omega) dX10_tellPlayer_5 (by omega) (by omega) 3 (by omega) rfl 73 (by decide) ?_
    refine zg_aload_n hX 0 rfl dX10_tellPlayer_73 rfl 74 rfl ?_
    refine zg_iload_n hX 1 rfl dX10_tellPlayer_74 rfl 75 rfl ?_
    refine zg_callVi (As := [.int (zI (p : Int))]) (rest := []) (k0 := 0) (ci := 9) hX (c_X10_isHeard l D cI q f R1 (sr σ) (st σ) p hρ hm1 hn1 ht hp) mw_813 mw_815 mw_s21 mw_10 mw_816 sg_X10_isHeard (by decide) (by decide) (Nat.le_refl _) (Nat.le_refl _) rfl rfl rfl (Nat.le_of_ble_eq_true rfl) dX10_tellPlayer_75 78 rfl ?_
    refine zg_ifb_eq hX dX10_tellPlayer_78 85 (by decide) 81 rfl (fun h78 => ?_) (fun h78 => ?_)
    · refine zg_iconst hX dX10_tellPlayer_85 86 rfl ?_
      exact zg_iret hX hR (Nat.le_refl _) (Nat.le_refl _) rfl dX10_tellPlayer_86 (⟨R1, rfl, by rw [if_pos (by omega), hs5]; show _ = some (Value.int (zI (b2 (he (sr σ) (st σ) p)))); rw [h78]; rfl, hx1⟩)
    · refine zg_iconst hX dX10_tellPlayer_81 82 rfl ?_
      refine zg_goto hX dX10_tellPlayer_82 86 (by decide) ?_
      exact zg_iret hX hR (Nat.le_refl _) (Nat.le_refl _) rfl dX10_tellPlayer_86 (⟨R1, rfl, by rw [if_pos (by omega), hs5]; show _ = some (Value.int (zI (b2 (he (sr σ) (st σ) p)))); rw [h78]; rfl, hx1⟩)
  · refine zg_tableIn hX (by omega) dX10_tellPlayer_5 (by omega) (by omega) 4 (by omega) rfl 87 (by decide) ?_
    refine zg_aload_n hX 0 rfl dX10_tellPlayer_87 rfl 88 rfl ?_
    refine zg_iload_n hX 1 rfl dX10_tellPlayer_88 rfl 89 rfl ?_
    refine zg_callV (As := [.int (zI (p : Int))]) (rest := []) (k0 := 0) (ci := 9) hX (c_X10_takesNext l D cI q f R1 σ B p hσ hB hr1 hn1 hp) mw_844 mw_846 mw_s27 mw_10 mw_847 sg_X10_takesNext (by decide) (by decide) (Nat.le_refl _) (Nat.le_refl _) rfl rfl rfl (Nat.le_of_ble_eq_true rfl) dX10_tellPlayer_89 92 rfl (fun v89 W89 hp89 => ?_)
    obtain ⟨R89, rfl, rfl, hf89⟩ := hp89
    show G X 3 0 0 (mW cI q f R89) [(0, .ref (q 0)), (1, .int (zI (p : Int))), (2, .int (zI w))] 92 [.int (zI (shn σ p : Int))]
    exact zg_iret hX hR (Nat.le_refl _) (Nat.le_refl _) rfl dX10_tellPlayer_92 (⟨R89, rfl, by rw [if_pos (by omega), hs5]; rfl, hx1.tr hf89⟩)
  · refine zg_tableIn hX (by omega) dX10_tellPlayer_5 (by omega) (by omega) 5 (by omega) rfl 93 (by decide) ?_
    refine zg_aload_n hX 0 rfl dX10_tellPlayer_93 rfl 94 rfl ?_
    refine mg_0_13 hX mw_654 dX10_tellPlayer_94 97 rfl ?_
    refine zg_iconst hX dX10_tellPlayer_97 98 rfl ?_
    refine zg_iload_n hX 1 rfl dX10_tellPlayer_98 rfl 99 rfl ?_
    refine zg_imul hX dX10_tellPlayer_99 100 rfl ?_
    refine zg_iload_n hX 2 rfl dX10_tellPlayer_100 rfl 101 rfl ?_
    refine zg_iadd hX dX10_tellPlayer_101 102 rfl ?_
    refine zg_iconst hX dX10_tellPlayer_102 103 rfl ?_
    refine zg_isub hX dX10_tellPlayer_103 104 rfl ?_
    refine ma_4 hX (4 * p + 2) (eo (sE σ) p : Int) (by omega) (by omega) (hr1.2.2.1.2.2.2.2.2.2.1 p hp) dX10_tellPlayer_104 105 rfl ?_
    exact zg_iret hX hR (Nat.le_refl _) (Nat.le_refl _) rfl dX10_tellPlayer_105 (⟨R1, rfl, by rw [if_pos (by omega), hs5]; rfl, hx1⟩)
  · refine zg_tableIn hX (by omega) dX10_tellPlayer_5 (by omega) (by omega) 6 (by omega) rfl 93 (by decide) ?_
    refine zg_aload_n hX 0 rfl dX10_tellPlayer_93 rfl 94 rfl ?_
    refine mg_0_13 hX mw_654 dX10_tellPlayer_94 97 rfl ?_
    refine zg_iconst hX dX10_tellPlayer_97 98 rfl ?_
    refine zg_iload_n hX 1 rfl dX10_tellPlayer_98 rfl 99 rfl ?_
    refine zg_imul hX dX10_tellPlayer_99 100 rfl ?_
    refine zg_iload_n hX 2 rfl dX10_tellPlayer_100 rfl 101 rfl ?_
    refine zg_iadd hX dX10_tellPlayer_101 102 rfl ?_
    refine zg_iconst hX dX10_tellPlayer_102 103 rfl ?_
    refine zg_isub hX dX10_tellPlayer_103 104 rfl ?_
    refine ma_4 hX (4 * p + 3) (ec (sE σ) p : Int) (by omega) (by omega) (hr1.2.2.1.2.2.2.2.2.2.2.1 p hp) dX10_tellPlayer_104 105 rfl ?_
    exact zg_iret hX hR (Nat.le_refl _) (Nat.le_refl _) rfl dX10_tellPlayer_105 (⟨R1, rfl, by rw [if_pos (by omega), hs5]; rfl, hx1⟩)
  · refine zg_tableOut hX (by omega) dX10_tellPlayer_5 (by omega) 106 (by decide) ?_
    refine zg_bipush hX dX10_tellPlayer_106 108 rfl (by decide) ?_
    exact zg_iret hX hR (Nat.le_refl _) (Nat.le_refl _) rfl dX10_tellPlayer_108 (⟨R1, rfl, by rw [if_neg (by omega)], hx1⟩)
-- Model.about
set_option maxRecDepth 20000 in
theorem c_X10_about (l : Launch) (D : va_G) (cI : ClassId) (q : Nat → Nat) (f : Nat → Int) (r : Nat → Nat → Int) (σ : Sg) (B : Nat) (a b : Int) (hσ : sOK σ B) (hB : B ≤ 100) (h : MRel f r σ) (ha : -2147483648 ≤ a ∧ a < 2147483648) (hb : -2147483648 ≤ b ∧ b < 2147483648) : Cn l D cI yX10_about cX10_about 3 (some .int) 7 0 0 [.ref (q 0), .int (zI a), .int (zI b)] (mW cI q f r) (qM cI q (o_about σ a b)) := by
  refine Cn.of [(0, .ref (q 0)), (1, .int (zI a)), (2, .int (zI b))] (by decide +kernel) (Nat.le_of_ble_eq_true rfl) rfl (fun X hX hR => ?_)
  have hsl := hσ.1
  have hg6 := hσ.2.1
  have hP := hσ.2.2.1
  have hE := hσ.2.2.2.1
  have hpb6 := hP.1
  have hpL9 := hP.2.1
  have hn4 := hE.1
  have hT6 := hE.2.2.2.2.1
  have hep := hE.2.2.2.2.2.2.2
  have hbk := hE.2.2.2.2.2.2.1
  have hs1 := hσ.2.2.2.2.2.1
  have hs2 := hσ.2.2.2.2.2.2.1
  have hs3 := hσ.2.2.2.2.2.2.2.1
  have hbd := hσ.2.2.2.2.2.2.2.2.1
  have hρ : RuOK (sr σ) := rho_OK hP hE
  have ht : tk (sr σ) (st σ) := rho_tk hE
  have hrb : rb (sr σ) = pb (sP σ) := rfl
  have hrn : rn (sr σ) = en (sE σ) := rfl
  have hrl : rl (sr σ) = pL (sP σ) := rfl
  have hm : mR f r (sr σ) := mR_of h.2.1 h.2.2.1
  refine zg_aload_n hX 0 rfl dX10_about_0 rfl 1 rfl ?_
  refine zg_iload_n hX 1 rfl dX10_about_1 rfl 2 rfl ?_
  refine zg_callVi (As := [.int (zI a)]) (rest := []) (k0 := 0) (ci := 9) hX (c_X10_isPlayer l D cI q f r (sr σ) a hρ hm ha) mw_821 mw_823 mw_s23 mw_10 mw_824 sg_X10_isPlayer (by decide) (by decide) (Nat.le_refl _) (Nat.le_refl _) rfl rfl rfl (Nat.le_of_ble_eq_true rfl) dX10_about_2 5 rfl ?_
  refine zg_ifb_eq hX dX10_about_5 17 (by decide) 8 rfl (fun h5 => ?_) (fun h5 => ?_)
  · have h5a := of_decide_eq_false h5
    refine zg_bipush hX dX10_about_17 19 rfl (by decide) ?_
    exact zg_iret hX hR (Nat.le_refl _) (Nat.le_refl _) rfl dX10_about_19 (by first | exact qM_ret (by unfold o_about; rw [if_neg (by omega)]) h | exact qM_ret (by unfold o_about; rw [if_pos (by omega)]) (MRel_r h hf11))
  · have h5a := of_decide_eq_true h5
    have el8_1 : (a : Int) = (a.toNat : Int) := by omega
    refine zg_to (lv2 := [(0, .ref (q 0)), (1, .int (zI (a.toNat : Int))), (2, .int (zI b))]) (ws2 := (mW cI q f r)) (st2 := []) ?_ rfl (by rw [← el8_1]) rfl
    refine zg_aload_n hX 0 rfl dX10_about_8 rfl 9 rfl ?_
    refine zg_iload_n hX 1 rfl dX10_about_9 rfl 10 rfl ?_
    refine zg_iload_n hX 2 rfl dX10_about_10 rfl 11 rfl ?_
    refine zg_callV (As := [.int (zI (a.toNat : Int)), .int (zI b)]) (rest := []) (k0 := 0) (ci := 9) hX (c_X10_tellPlayer l D cI q f r σ B a.toNat b hσ hB h (by omega) hb) mw_840 mw_842 mw_s26 mw_10 mw_843 sg_X10_tellPlayer (by decide) (by decide) (Nat.le_refl _) (Nat.le_refl _) rfl rfl rfl (Nat.le_of_ble_eq_true rfl) dX10_about_11 14 rfl (fun v11 W11 hp11 => ?_)
    obtain ⟨R11, rfl, rfl, hf11⟩ := hp11
    show G X 3 0 0 (mW cI q f R11) [(0, .ref (q 0)), (1, .int (zI (a.toNat : Int))), (2, .int (zI b))] 14 [.int (zI (if 0 ≤ b ∧ b ≤ 6 then tellP σ a.toNat b else -102))]
    refine zg_goto hX dX10_about_14 19 (by decide) ?_
    exact zg_iret hX hR (Nat.le_refl _) (Nat.le_refl _) rfl dX10_about_19 (by first | exact qM_ret (by unfold o_about; rw [if_neg (by omega)]) h | exact qM_ret (by unfold o_about; rw [if_pos (by omega)]) (MRel_r h hf11))
-- Model.as
set_option maxRecDepth 20000 in
theorem c_X10_as (l : Launch) (D : va_G) (cI : ClassId) (q : Nat → Nat) (f : Nat → Int) (r : Nat → Nat → Int) (σ : Sg) (B : Nat) (a b : Int) (hσ : sOK σ B) (hB : B ≤ 100) (h : MRel f r σ) (ha : -2147483648 ≤ a ∧ a < 2147483648) (hb : -2147483648 ≤ b ∧ b < 2147483648) : Cn l D cI yX10_as cX10_as 5 (some .int) 2 0 0 [.ref (q 0), .int (zI a), .int (zI b)] (mW cI q f r) (qM cI q (o_as σ a b)) := by
  refine Cn.of [(0, .ref (q 0)), (1, .int (zI a)), (2, .int (zI b))] (by decide +kernel) (Nat.le_of_ble_eq_true rfl) rfl (fun X hX hR => ?_)
  have hsl := hσ.1
  have hg6 := hσ.2.1
  have hP := hσ.2.2.1
  have hE := hσ.2.2.2.1
  have hpb6 := hP.1
  have hpL9 := hP.2.1
  have hn4 := hE.1
  have hT6 := hE.2.2.2.2.1
  have hep := hE.2.2.2.2.2.2.2
  have hbk := hE.2.2.2.2.2.2.1
  have hs1 := hσ.2.2.2.2.2.1
  have hs2 := hσ.2.2.2.2.2.2.1
  have hs3 := hσ.2.2.2.2.2.2.2.1
  have hbd := hσ.2.2.2.2.2.2.2.2.1
  have hρ : RuOK (sr σ) := rho_OK hP hE
  have ht : tk (sr σ) (st σ) := rho_tk hE
  have hrb : rb (sr σ) = pb (sP σ) := rfl
  have hrn : rn (sr σ) = en (sE σ) := rfl
  have hrl : rl (sr σ) = pL (sP σ) := rfl
  have hm : mR f r (sr σ) := mR_of h.2.1 h.2.2.1
  refine zg_aload_n hX 0 rfl dX10_as_0 rfl 1 rfl ?_
  refine zg_iload_n hX 1 rfl dX10_as_1 rfl 2 rfl ?_
  refine zg_callVi (As := [.int (zI a)]) (rest := []) (k0 := 0) (ci := 9) hX (c_X10_isPlayer l D cI q f r (sr σ) a hρ hm ha) mw_821 mw_823 mw_s23 mw_10 mw_824 sg_X10_isPlayer (by decide) (by decide) (Nat.le_refl _) (Nat.le_refl _) rfl rfl rfl (Nat.le_of_ble_eq_true rfl) dX10_as_2 5 rfl ?_
  refine zg_ifb_ne hX dX10_as_5 11 (by decide) 8 rfl (fun h5 => ?_) (fun h5 => ?_)
  · have h5a := of_decide_eq_true h5
    refine zg_iload_n hX 2 rfl dX10_as_11 rfl 12 rfl ?_
    refine zg_i2l hX (by omega) dX10_as_12 13 rfl ?_
    refine zg_lconst (a := 0) hX (by decide) dX10_as_13 14 rfl ?_
    refine zg_ldc2 (a := 4) hX mw_768 (by decide) dX10_as_14 17 rfl ?_
    refine zg_callSi (As := [.long (zL b), .long (zL 0), .long (zL 4)]) (rest := []) hX (c_X10_in l D cI _ b 0 4 (by omega) (by omega) (by omega)) mw_746 mw_747 mw_10 mw_748 sg_X10_in.2 (by decide) (by decide) (Nat.le_refl _) (Nat.le_refl _) rfl (Nat.le_of_ble_eq_true rfl) dX10_as_17 20 rfl ?_
    refine zg_ifb_ne hX dX10_as_20 26 (by decide) 23 rfl (fun h20 => ?_) (fun h20 => ?_)
    · have h20a := of_decide_eq_true h20
      refine zg_aload_n hX 0 rfl dX10_as_26 rfl 27 rfl ?_
      refine mg_0_13 hX mw_654 dX10_as_27 30 rfl ?_
      refine zg_iconst hX dX10_as_30 31 rfl ?_
      refine zg_iload_n hX 1 rfl dX10_as_31 rfl 32 rfl ?_
      refine zg_imul hX dX10_as_32 33 rfl ?_
      refine ma_4 hX (4 * a.toNat) (ek (sE σ) a.toNat : Int) (by omega) (by omega) (h.2.2.1.2.2.2.2.1 a.toNat (by omega)) dX10_as_33 34 rfl ?_
      have hk4 := hE.2.1 a.toNat
      refine zg_istore_n hX [(3, .int (zI (ek (sE σ) a.toNat : Int))), (0, .ref (q 0)), (1, .int (zI a)), (2, .int (zI b))] dX10_as_34 rfl (by decide) rfl 35 rfl ?_
      refine zg_iload_n hX 3 rfl dX10_as_35 rfl 36 rfl ?_
      have J59 : ∀ xj : Int, xj = (b2 (decide (b = 0 ∨ b = (ek (sE σ) a.toNat : Int) ∨ (b = 1 ∧ ek (sE σ) a.toNat = 4)))) → G X 5 0 0 (mW cI q f r) [(3, .int (zI (ek (sE σ) a.toNat : Int))), (0, .ref (q 0)), (1, .int (zI a)), (2, .int (zI b))] 59 [.int (zI xj)] := by
        intro xj hx59
        subst hx59
        refine zg_istore hX [(4, .int (zI (b2 (decide (b = 0 ∨ b = (ek (sE σ) a.toNat : Int) ∨ (b = 1 ∧ ek (sE σ) a.toNat = 4)))))), (3, .int (zI (ek (sE σ) a.toNat : Int))), (0, .ref (q 0)), (1, .int (zI a)), (2, .int (zI b))] dX10_as_59 (by decide) rfl 61 rfl ?_
        refine zg_iload hX 0 rfl dX10_as_61 63 rfl ?_
        refine zg_ifb_eq hX dX10_as_63 70 (by decide) 66 rfl (fun h63 => ?_) (fun h63 => ?_)
        · have h63a := of_decide_eq_false h63
          refine zg_iconst hX dX10_as_70 71 rfl ?_
          exact zg_iret hX hR (Nat.le_refl _) (Nat.le_refl _) rfl dX10_as_71 (by first | exact qM_ret (by unfold o_as; rw [if_pos (by omega), if_pos (by omega), if_neg h63a]) h | exact qM_ret (by unfold o_as; rw [if_pos (by omega), if_pos (by omega), if_pos h63a]) h)
        · have h63a := of_decide_eq_true h63
          refine zg_iload_n hX 3 rfl dX10_as_66 rfl 67 rfl ?_
          refine zg_goto hX dX10_as_67 71 (by decide) ?_
          exact zg_iret hX hR (Nat.le_refl _) (Nat.le_refl _) rfl dX10_as_71 (by first | exact qM_ret (by unfold o_as; rw [if_pos (by omega), if_pos (by omega), if_neg h63a]) h | exact qM_ret (by unfold o_as; rw [if_pos (by omega), if_pos (by omega), if_pos h63a]) h)
      refine zg_if_eq hX (by omega) dX10_as_36 54 (by decide) 39 rfl (fun h36 => ?_) (fun h36 => ?_)
      · refine zg_iconst hX dX10_as_54 55 rfl ?_
        refine zg_goto hX dX10_as_55 59 (by decide) ?_
        exact J59 _ (by first | (rw [decide_eq_true (by omega)]; rfl) | (rw [decide_eq_false (by omega)]; rfl))
      · refine zg_iload_n hX 3 rfl dX10_as_39 rfl 40 rfl ?_
        refine zg_iload_n hX 0 rfl dX10_as_40 rfl 41 rfl ?_
        refine zg_icmp_eq hX (by omega) (by omega) dX10_as_41 54 (by decide) 44 rfl (fun h41 => ?_) (fun h41 => ?_)
        · refine zg_iconst hX dX10_as_54 55 rfl ?_
          refine zg_goto hX dX10_as_55 59 (by decide) ?_
          exact J59 _ (by first | (rw [decide_eq_true (by omega)]; rfl) | (rw [decide_eq_false (by omega)]; rfl))
        · refine zg_iload_n hX 3 rfl dX10_as_44 rfl 45 rfl ?_
          refine zg_iconst hX dX10_as_45 46 rfl ?_
          refine zg_icmp_ne hX (by omega) (by omega) dX10_as_46 58 (by decide) 49 rfl (fun h46 => ?_) (fun h46 => ?_)
          · refine zg_iconst hX dX10_as_58 59 rfl ?_
            exact J59 _ (by first | (rw [decide_eq_true (by omega)]; rfl) | (rw [decide_eq_false (by omega)]; rfl))
          · refine zg_iload_n hX 0 rfl dX10_as_49 rfl 50 rfl ?_
            refine zg_iconst hX dX10_as_50 51 rfl ?_
            refine zg_icmp_ne hX (by omega) (by omega) dX10_as_51 58 (by decide) 54 rfl (fun h51 => ?_) (fun h51 => ?_)
            · refine zg_iconst hX dX10_as_58 59 rfl ?_
              exact J59 _ (by first | (rw [decide_eq_true (by omega)]; rfl) | (rw [decide_eq_false (by omega)]; rfl))
            · refine zg_iconst hX dX10_as_54 55 rfl ?_
              refine zg_goto hX dX10_as_55 59 (by decide) ?_
              exact J59 _ (by first | (rw [decide_eq_true (by omega)]; rfl) | (rw [decide_eq_false (by omega)]; rfl))
    · have h20a := of_decide_eq_false h20
      refine zg_bipush hX dX10_as_23 25 rfl (by decide) ?_
      exact zg_iret hX hR (Nat.le_refl _) (Nat.le_refl _) rfl dX10_as_25 (qM_ret (by unfold o_as; rw [if_pos (by omega), if_neg (by omega)]) h)
  · have h5a := of_decide_eq_false h5
    refine zg_bipush hX dX10_as_8 10 rfl (by decide) ?_
    exact zg_iret hX hR (Nat.le_refl _) (Nat.le_refl _) rfl dX10_as_10 (qM_ret (by unfold o_as; rw [if_neg (by omega)]) h)
-- Model.coffee
set_option maxRecDepth 20000 in
theorem c_X10_coffee (l : Launch) (D : va_G) (cI : ClassId) (q : Nat → Nat) (f : Nat → Int) (r : Nat → Nat → Int) (σ : Sg) (B : Nat) (a : Int) (hσ : sOK σ B) (hB : B ≤ 100) (h : MRel f r σ) (ha : -2147483648 ≤ a ∧ a < 2147483648) : Cn l D cI yX10_coffee cX10_coffee 2 (some .int) 2 0 0 [.ref (q 0), .int (zI a)] (mW cI q f r) (qM cI q (o_coffee σ a)) := by
  refine Cn.of [(0, .ref (q 0)), (1, .int (zI a))] (by decide +kernel) (Nat.le_of_ble_eq_true rfl) rfl (fun X hX hR => ?_)
  have hsl := hσ.1
  have hg6 := hσ.2.1
  have hP := hσ.2.2.1
  have hE := hσ.2.2.2.1
  have hpb6 := hP.1
  have hpL9 := hP.2.1
  have hn4 := hE.1
  have hT6 := hE.2.2.2.2.1
  have hep := hE.2.2.2.2.2.2.2
  have hbk := hE.2.2.2.2.2.2.1
  have hs1 := hσ.2.2.2.2.2.1
  have hs2 := hσ.2.2.2.2.2.2.1
  have hs3 := hσ.2.2.2.2.2.2.2.1
  have hbd := hσ.2.2.2.2.2.2.2.2.1
  have hρ : RuOK (sr σ) := rho_OK hP hE
  have ht : tk (sr σ) (st σ) := rho_tk hE
  have hrb : rb (sr σ) = pb (sP σ) := rfl
  have hrn : rn (sr σ) = en (sE σ) := rfl
  have hrl : rl (sr σ) = pL (sP σ) := rfl
  have hm : mR f r (sr σ) := mR_of h.2.1 h.2.2.1
  refine zg_aload_n hX 0 rfl dX10_coffee_0 rfl 1 rfl ?_
  refine zg_iload_n hX 1 rfl dX10_coffee_1 rfl 2 rfl ?_
  refine zg_callVi (As := [.int (zI a)]) (rest := []) (k0 := 0) (ci := 9) hX (c_X10_isPlayer l D cI q f r (sr σ) a hρ hm ha) mw_821 mw_823 mw_s23 mw_10 mw_824 sg_X10_isPlayer (by decide) (by decide) (Nat.le_refl _) (Nat.le_refl _) rfl rfl rfl (Nat.le_of_ble_eq_true rfl) dX10_coffee_2 5 rfl ?_
  refine zg_ifb_ne hX dX10_coffee_5 11 (by decide) 8 rfl (fun h5 => ?_) (fun h5 => ?_)
  · have h5a := of_decide_eq_true h5
    have el11_1 : (a : Int) = (a.toNat : Int) := by omega
    refine zg_to (lv2 := [(0, .ref (q 0)), (1, .int (zI (a.toNat : Int)))]) (ws2 := (mW cI q f r)) (st2 := []) ?_ rfl (by rw [← el11_1]) rfl
    refine zg_aload_n hX 0 rfl dX10_coffee_11 rfl 12 rfl ?_
    refine zg_callV (As := []) (rest := []) (k0 := 0) (ci := 9) hX (c_X10_asItIs l D cI q f r (sr σ) hρ (mR_of h.2.1 h.2.2.1)) mw_797 mw_799 mw_s17 mw_10 mw_800 sg_X10_asItIs (by decide) (by decide) (Nat.le_refl _) (Nat.le_refl _) rfl rfl rfl (Nat.le_of_ble_eq_true rfl) dX10_coffee_12 15 rfl (fun v12 W12 hp12 => ?_)
    obtain ⟨R12, rfl, rfl, hl12⟩ := hp12
    show G X 2 0 0 (mW cI q f R12) [(0, .ref (q 0)), (1, .int (zI (a.toNat : Int)))] 15 []
    have hx12 : frR r R12 := frR_lay hl12 (by omega)
    have hr12 : MRel f R12 σ := MRel_r h hx12
    have hn12 : ∀ p, p < rn (sr σ) → R12 5 p = (st σ p : Int) := fun p hp => (hl12.2 p hp).trans (h.2.2.1.2.2.2.2.2.1 p hp)
    have hm12 : mR f R12 (sr σ) := mR_of hr12.2.1 hr12.2.2.1
    refine zg_aload_n hX 0 rfl dX10_coffee_15 rfl 16 rfl ?_
    refine zg_iload_n hX 1 rfl dX10_coffee_16 rfl 17 rfl ?_
    refine zg_callV (As := [.int (zI (a.toNat : Int))]) (rest := []) (k0 := 0) (ci := 9) hX (c_X10_drinks l D cI q f R12 (sr σ) (st σ) a.toNat hρ hm12 hn12 ht (by omega)) mw_856 mw_858 mw_s28 mw_10 mw_859 sg_X10_drinks (by decide) (by decide) (Nat.le_refl _) (Nat.le_refl _) rfl rfl rfl (Nat.le_of_ble_eq_true rfl) dX10_coffee_17 20 rfl (fun v17 W17 hp17 => ?_)
    obtain ⟨R17, rfl, rfl, hf17, hs17⟩ := hp17
    show G X 2 0 0 (mW cI q f R17) [(0, .ref (q 0)), (1, .int (zI (a.toNat : Int)))] 20 []
    have hr17 : MRel f R17 σ := MRel_r hr12 (frR_1 hf17 (by omega))
    refine zg_aload_n hX 0 rfl dX10_coffee_20 rfl 21 rfl ?_
    refine zg_callV (As := []) (rest := []) (k0 := 0) (ci := 9) hX (c_X10_layNow l D cI q f R17 (sr σ) hρ (mR_of hr17.2.1 hr17.2.2.1)) mw_860 mw_862 mw_s29 mw_10 mw_863 sg_X10_layNow (by decide) (by decide) (Nat.le_refl _) (Nat.le_refl _) rfl rfl rfl (Nat.le_of_ble_eq_true rfl) dX10_coffee_21 24 rfl (fun v21 W21 hp21 => ?_)
    obtain ⟨R21, rfl, rfl, hf21, ha21, hb21⟩ := hp21
    show G X 2 0 0 (mW cI q f R21) [(0, .ref (q 0)), (1, .int (zI (a.toNat : Int)))] 24 []
    have hk21 : ∀ j, j = 0 ∨ j = 2 ∨ j = 4 ∨ j = 11 ∨ j = 12 → R21 j = r j := fun j hj => by rw [hf21 j (by omega), hf17 j (by omega), hl12.1 j (by omega)]
    have h321 : ∀ p, p < en (sE σ) → R21 3 (4 * p + 1) = (rf (st σ) a.toNat p : Int) := fun p hp => by rw [ha21 p hp]; exact hs17 p hp
    have h421 : ∀ j, j % 4 ≠ 1 → R21 3 j = r 3 j := fun j hj => by rw [hb21 j hj, hf17 3 (by decide), hl12.1 3 (by decide)]
    refine zg_aload_n hX 0 rfl dX10_coffee_24 rfl 25 rfl ?_
    refine mg_0_13 hX mw_654 dX10_coffee_25 28 rfl ?_
    refine zg_iconst hX dX10_coffee_28 29 rfl ?_
    refine zg_iload_n hX 1 rfl dX10_coffee_29 rfl 30 rfl ?_
    refine zg_imul hX dX10_coffee_30 31 rfl ?_
    refine zg_iconst hX dX10_coffee_31 32 rfl ?_
    refine zg_iadd hX dX10_coffee_32 33 rfl ?_
    refine zg_dup2 hX rfl rfl dX10_coffee_33 34 rfl ?_
    refine ma_4 hX (4 * a.toNat + 3) (ec (sE σ) a.toNat : Int) (by omega) (by omega) (by rw [h421 _ (by omega)]; exact h.2.2.1.2.2.2.2.2.2.2.1 _ (by omega)) dX10_coffee_34 35 rfl ?_
    refine zg_iconst hX dX10_coffee_35 36 rfl ?_
    refine zg_iadd hX dX10_coffee_36 37 rfl ?_
    refine ms_4 hX (4 * a.toNat + 3) (by omega) (by omega) dX10_coffee_37 38 rfl ?_
    refine zg_aload_n hX 0 rfl dX10_coffee_38 rfl 39 rfl ?_
    refine mg_0_16 hX mw_657 dX10_coffee_39 42 rfl ?_
    refine zg_iload_n hX 1 rfl dX10_coffee_42 rfl 43 rfl ?_
    refine ma_6 hX a.toNat ((st σ a.toNat - 4 : Nat) : Int) (by omega) (by omega) (by rw [pu_ne _ _ (by decide), hf21 5 (by decide), hs17 _ (by omega)]; show ((pu (st σ) a.toNat (st σ a.toNat - 4) a.toNat : Nat) : Int) = _; rw [pu_eq]) dX10_coffee_43 44 rfl ?_
    exact zg_iret hX hR (Nat.le_refl _) (Nat.le_refl _) rfl dX10_coffee_44 (qM_ret (by unfold o_coffee; rw [if_pos (by omega)]) (m_coffee h (by omega) hk21 h321 h421))
  · have h5a := of_decide_eq_false h5
    refine zg_bipush hX dX10_coffee_8 10 rfl (by decide) ?_
    exact zg_iret hX hR (Nat.le_refl _) (Nat.le_refl _) rfl dX10_coffee_10 (qM_ret (by unfold o_coffee; rw [if_neg (by omega)]) h)
-- Model.tire
set_option maxRecDepth 20000 in
theorem c_X10_tire (l : Launch) (D : va_G) (cI : ClassId) (q : Nat → Nat) (f : Nat → Int) (r : Nat → Nat → Int) (σ : Sg) (B : Nat) (a b : Int) (hσ : sOK σ B) (hB : B ≤ 100) (h : MRel f r σ) (ha : -2147483648 ≤ a ∧ a < 2147483648) (hb : -2147483648 ≤ b ∧ b < 2147483648) : Cn l D cI yX10_tire cX10_tire 4 (some .int) 2 0 0 [.ref (q 0), .int (zI a), .int (zI b)] (mW cI q f r) (qM cI q (o_tire σ a b)) := by
  refine Cn.of [(0, .ref (q 0)), (1, .int (zI a)), (2, .int (zI b))] (by decide +kernel) (Nat.le_of_ble_eq_true rfl) rfl (fun X hX hR => ?_)
  have hsl := hσ.1
  have hg6 := hσ.2.1
  have hP := hσ.2.2.1
  have hE := hσ.2.2.2.1
  have hpb6 := hP.1
  have hpL9 := hP.2.1
  have hn4 := hE.1
  have hT6 := hE.2.2.2.2.1
  have hep := hE.2.2.2.2.2.2.2
  have hbk := hE.2.2.2.2.2.2.1
  have hs1 := hσ.2.2.2.2.2.1
  have hs2 := hσ.2.2.2.2.2.2.1
  have hs3 := hσ.2.2.2.2.2.2.2.1
  have hbd := hσ.2.2.2.2.2.2.2.2.1
  have hρ : RuOK (sr σ) := rho_OK hP hE
  have ht : tk (sr σ) (st σ) := rho_tk hE
  have hrb : rb (sr σ) = pb (sP σ) := rfl
  have hrn : rn (sr σ) = en (sE σ) := rfl
  have hrl : rl (sr σ) = pL (sP σ) := rfl
  have hm : mR f r (sr σ) := mR_of h.2.1 h.2.2.1
  refine zg_aload_n hX 0 rfl dX10_tire_0 rfl 1 rfl ?_
  refine zg_iload_n hX 1 rfl dX10_tire_1 rfl 2 rfl ?_
  refine zg_callVi (As := [.int (zI a)]) (rest := []) (k0 := 0) (ci := 9) hX (c_X10_isPlayer l D cI q f r (sr σ) a hρ hm ha) mw_821 mw_823 mw_s23 mw_10 mw_824 sg_X10_isPlayer (by decide) (by decide) (Nat.le_refl _) (Nat.le_refl _) rfl rfl rfl (Nat.le_of_ble_eq_true rfl) dX10_tire_2 5 rfl ?_
  refine zg_ifb_ne hX dX10_tire_5 11 (by decide) 8 rfl (fun h5 => ?_) (fun h5 => ?_)
  · have h5a := of_decide_eq_true h5
    refine zg_iload_n hX 2 rfl dX10_tire_11 rfl 12 rfl ?_
    refine zg_i2l hX (by omega) dX10_tire_12 13 rfl ?_
    refine zg_lconst (a := 0) hX (by decide) dX10_tire_13 14 rfl ?_
    refine zg_ldc2 (a := 9) hX mw_769 (by decide) dX10_tire_14 17 rfl ?_
    refine zg_callSi (As := [.long (zL b), .long (zL 0), .long (zL 9)]) (rest := []) hX (c_X10_in l D cI _ b 0 9 (by omega) (by omega) (by omega)) mw_746 mw_747 mw_10 mw_748 sg_X10_in.2 (by decide) (by decide) (Nat.le_refl _) (Nat.le_refl _) rfl (Nat.le_of_ble_eq_true rfl) dX10_tire_17 20 rfl ?_
    refine zg_ifb_ne hX dX10_tire_20 26 (by decide) 23 rfl (fun h20 => ?_) (fun h20 => ?_)
    · have h20a := of_decide_eq_true h20
      refine zg_aload_n hX 0 rfl dX10_tire_26 rfl 27 rfl ?_
      refine mg_0_13 hX mw_654 dX10_tire_27 30 rfl ?_
      refine zg_iconst hX dX10_tire_30 31 rfl ?_
      refine zg_iload_n hX 1 rfl dX10_tire_31 rfl 32 rfl ?_
      refine zg_imul hX dX10_tire_32 33 rfl ?_
      refine zg_iconst hX dX10_tire_33 34 rfl ?_
      refine zg_iadd hX dX10_tire_34 35 rfl ?_
      refine ma_4 hX (4 * a.toNat + 1) (st σ a.toNat : Int) (by omega) (by omega) (h.2.2.1.2.2.2.2.2.1 a.toNat (by omega)) dX10_tire_35 36 rfl ?_
      refine zg_istore_n hX [(3, .int (zI (st σ a.toNat : Int))), (0, .ref (q 0)), (1, .int (zI a)), (2, .int (zI b))] dX10_tire_36 rfl (by decide) rfl 37 rfl ?_
      refine zg_aload_n hX 1 rfl dX10_tire_37 rfl 38 rfl ?_
      refine mg_0_13 hX mw_654 dX10_tire_38 41 rfl ?_
      refine zg_iconst hX dX10_tire_41 42 rfl ?_
      refine zg_iload_n hX 2 rfl dX10_tire_42 rfl 43 rfl ?_
      refine zg_imul hX dX10_tire_43 44 rfl ?_
      refine zg_iconst hX dX10_tire_44 45 rfl ?_
      refine zg_iadd hX dX10_tire_45 46 rfl ?_
      refine zg_iload_n hX 3 rfl dX10_tire_46 rfl 47 rfl ?_
      refine ms_4 hX (4 * a.toNat + 1) (by omega) (by omega) dX10_tire_47 48 rfl ?_
      refine zg_iload_n hX 0 rfl dX10_tire_48 rfl 49 rfl ?_
      exact zg_iret hX hR (Nat.le_refl _) (Nat.le_refl _) rfl dX10_tire_49 (qM_ret (by unfold o_tire; rw [if_pos (by omega), if_pos (by omega)]) (m_tire h (by omega)))
    · have h20a := of_decide_eq_false h20
      refine zg_bipush hX dX10_tire_23 25 rfl (by decide) ?_
      exact zg_iret hX hR (Nat.le_refl _) (Nat.le_refl _) rfl dX10_tire_25 (qM_ret (by unfold o_tire; rw [if_pos (by omega), if_neg (by omega)]) h)
  · have h5a := of_decide_eq_false h5
    refine zg_bipush hX dX10_tire_8 10 rfl (by decide) ?_
    exact zg_iret hX hR (Nat.le_refl _) (Nat.le_refl _) rfl dX10_tire_10 (qM_ret (by unfold o_tire; rw [if_neg (by omega)]) h)
-- Model.play
set_option maxRecDepth 20000 in
theorem c_X10_play (l : Launch) (D : va_G) (cI : ClassId) (q : Nat → Nat) (f : Nat → Int) (r : Nat → Nat → Int) (σ : Sg) (B : Nat)  (hσ : sOK σ B) (hB : B ≤ 100) (h : MRel f r σ) : Cn l D cI yX10_play cX10_play 3 (some .int) 6 0 0 [.ref (q 0)] (mW cI q f r) (qM cI q (o_play σ)) := by
  refine Cn.of [(0, .ref (q 0))] (by decide +kernel) (Nat.le_of_ble_eq_true rfl) rfl (fun X hX hR => ?_)
  have hsl := hσ.1
  have hg6 := hσ.2.1
  have hP := hσ.2.2.1
  have hE := hσ.2.2.2.1
  have hpb6 := hP.1
  have hpL9 := hP.2.1
  have hn4 := hE.1
  have hT6 := hE.2.2.2.2.1
  have hep := hE.2.2.2.2.2.2.2
  have hbk := hE.2.2.2.2.2.2.1
  have hs1 := hσ.2.2.2.2.2.1
  have hs2 := hσ.2.2.2.2.2.2.1
  have hs3 := hσ.2.2.2.2.2.2.2.1
  have hbd := hσ.2.2.2.2.2.2.2.2.1
  have hρ : RuOK (sr σ) := rho_OK hP hE
  have ht : tk (sr σ) (st σ) := rho_tk hE
  have hrb : rb (sr σ) = pb (sP σ) := rfl
  have hrn : rn (sr σ) = en (sE σ) := rfl
  have hrl : rl (sr σ) = pL (sP σ) := rfl
  have hm : mR f r (sr σ) := mR_of h.2.1 h.2.2.1
  refine zg_aload_n hX 0 rfl dX10_play_0 rfl 1 rfl ?_
  refine zg_callVi (As := []) (rest := []) (k0 := 0) (ci := 9) hX (c_X10_lacks l D cI q f r (sr σ) hρ hm) mw_781 mw_783 mw_s14 mw_10 mw_784 sg_X10_lacks (by decide) (by decide) (Nat.le_refl _) (Nat.le_refl _) rfl rfl rfl (Nat.le_of_ble_eq_true rfl) dX10_play_1 4 rfl ?_
  refine zg_ifb_ne hX dX10_play_4 18 (by decide) 7 rfl (fun h4 => ?_) (fun h4 => ?_)
  · have hlk := of_decide_eq_true h4
    refine zg_bipush hX dX10_play_18 20 rfl (by decide) ?_
    exact zg_iret hX hR (Nat.le_refl _) (Nat.le_refl _) rfl dX10_play_20 (qM_ret (by unfold o_play; rw [if_neg (by omega)]) h)
  · have hlk := of_decide_eq_false h4
    refine zg_aload_n hX 0 rfl dX10_play_7 rfl 8 rfl ?_
    refine mg_0_8 hX mw_649 (ep (sE σ) : Int) h.2.2.1.2.1 dX10_play_8 11 rfl ?_
    refine zg_aload_n hX 0 rfl dX10_play_11 rfl 12 rfl ?_
    refine mg_0_6 hX mw_647 (pb (sP σ) : Int) h.2.1.1 dX10_play_12 15 rfl ?_
    refine zg_icmp_ne hX (by omega) (by omega) dX10_play_15 21 (by decide) 18 rfl (fun h15 => ?_) (fun h15 => ?_)
    · refine zg_aload_n hX 0 rfl dX10_play_21 rfl 22 rfl ?_
      refine zg_callV (As := []) (rest := []) (k0 := 0) (ci := 9) hX (c_X10_asItIs l D cI q f r (sr σ) hρ (mR_of h.2.1 h.2.2.1)) mw_797 mw_799 mw_s17 mw_10 mw_800 sg_X10_asItIs (by decide) (by decide) (Nat.le_refl _) (Nat.le_refl _) rfl rfl rfl (Nat.le_of_ble_eq_true rfl) dX10_play_22 25 rfl (fun v22 W22 hp22 => ?_)
      obtain ⟨R22, rfl, rfl, hl22⟩ := hp22
      show G X 3 0 0 (mW cI q f R22) [(0, .ref (q 0))] 25 []
      have hx22 : frR r R22 := frR_lay hl22 (by omega)
      have hr22 : MRel f R22 σ := MRel_r h hx22
      have hn22 : ∀ p, p < rn (sr σ) → R22 5 p = (st σ p : Int) := fun p hp => (hl22.2 p hp).trans (h.2.2.1.2.2.2.2.2.1 p hp)
      have hm22 : mR f R22 (sr σ) := mR_of hr22.2.1 hr22.2.2.1
      refine zg_aload_n hX 0 rfl dX10_play_25 rfl 26 rfl ?_
      refine zg_aload_n hX 0 rfl dX10_play_26 rfl 27 rfl ?_
      refine mg_0_8 hX mw_649 (ep (sE σ) : Int) h.2.2.1.2.1 dX10_play_27 30 rfl ?_
      refine zg_callV (As := [.int (zI (ep (sE σ) : Int))]) (rest := []) (k0 := 0) (ci := 9) hX (c_X10_plays l D cI q f R22 (sr σ) (st σ) (ep (sE σ)) hρ hm22 hn22 ht (by omega)) mw_805 mw_807 mw_s19 mw_10 mw_808 sg_X10_plays (by decide) (by decide) (Nat.le_refl _) (Nat.le_refl _) rfl rfl rfl (Nat.le_of_ble_eq_true rfl) dX10_play_30 33 rfl (fun v30 W30 hp30 => ?_)
      obtain ⟨R30, rfl, rfl, hf30, hs30, ht30⟩ := hp30
      show G X 3 0 0 (mW cI q f R30) [(0, .ref (q 0))] 33 [.int (zI (lo (sr σ) (ep (sE σ)) (st σ) : Int))]
      have hr30 : MRel f R30 σ := MRel_r hr22 (frR_567 hf30)
      refine zg_istore_n hX [(1, .int (zI (lo (sr σ) (ep (sE σ)) (st σ) : Int))), (0, .ref (q 0))] dX10_play_33 rfl (by decide) rfl 34 rfl ?_
      refine zg_aload_n hX 1 rfl dX10_play_34 rfl 35 rfl ?_
      refine zg_callV (As := []) (rest := []) (k0 := 0) (ci := 9) hX (c_X10_layNow l D cI q f R30 (sr σ) hρ (mR_of hr30.2.1 hr30.2.2.1)) mw_860 mw_862 mw_s29 mw_10 mw_863 sg_X10_layNow (by decide) (by decide) (Nat.le_refl _) (Nat.le_refl _) rfl rfl rfl (Nat.le_of_ble_eq_true rfl) dX10_play_35 38 rfl (fun v35 W35 hp35 => ?_)
      obtain ⟨R35, rfl, rfl, hf35, ha35, hb35⟩ := hp35
      show G X 3 0 0 (mW cI q f R35) [(1, .int (zI (lo (sr σ) (ep (sE σ)) (st σ) : Int))), (0, .ref (q 0))] 38 []
      have h335 : ∀ j, j % 4 ≠ 1 → R35 3 j = r 3 j := fun j hj => by rw [hb35 j hj, hf30 3 (by decide) (by decide) (by decide), hl22.1 3 (by decide)]
      refine zg_iconst hX dX10_play_38 39 rfl ?_
      refine zg_istore_n hX [(2, .int (zI 0)), (1, .int (zI (lo (sr σ) (ep (sE σ)) (st σ) : Int))), (0, .ref (q 0))] dX10_play_39 rfl (by decide) rfl 40 rfl ?_
      have L40 : ∀ (fuel : Nat) (i : Nat) (R1 : Nat → Nat → Int) (x40_2 : Int), (en (sE σ) - i < fuel) → (i ≤ en (sE σ)) → (∀ k, k ≠ 3 → R1 k = R35 k) → (∀ j, j % 4 ≠ 2 → R1 3 j = R35 3 j) → (∀ p, p < i → R1 3 (4 * p + 2) = (eo (sE σ) p : Int) + (sh (sr σ) (ep (sE σ)) (st σ) p : Int)) → (∀ p, i ≤ p → R1 3 (4 * p + 2) = R35 3 (4 * p + 2)) → x40_2 = (i : Int) → G X 3 0 0 (mW cI q f R1) [(0, .ref (q 0)), (1, .int (zI (lo (sr σ) (ep (sE σ)) (st σ) : Int))), (2, .int (zI x40_2))] 40 [] := by
        intro fuel
        induction fuel with
        | zero =>
          intro i R1 x40_2 hm40
          exact absurd hm40 (Nat.not_lt_zero _)
        | succ fuel ih40 =>
          intro i R1 x40_2 hm40 hi hRk hRo hR2a hR2b ex40_2
          subst ex40_2
          refine zg_iload_n hX 2 rfl dX10_play_40 rfl 41 rfl ?_
          refine zg_aload_n hX 0 rfl dX10_play_41 rfl 42 rfl ?_
          refine mg_0_12 hX mw_653 (en (sE σ) : Int) h.2.2.1.1 dX10_play_42 45 rfl ?_
          refine zg_icmp_ge hX (by omega) (by omega) dX10_play_45 73 (by decide) 48 rfl (fun h45 => ?_) (fun h45 => ?_)
          · refine zg_aload_n hX 0 rfl dX10_play_73 rfl 74 rfl ?_
            refine zg_dup hX rfl dX10_play_74 75 rfl ?_
            refine mg_0_9 hX mw_650 (es (sE σ) : Int) h.2.2.1.2.2.1 dX10_play_75 78 rfl ?_
            refine zg_iload_n hX 1 rfl dX10_play_78 rfl 79 rfl ?_
            refine zg_iadd hX dX10_play_79 80 rfl ?_
            refine mp_0_9 hX mw_650 dX10_play_80 83 rfl ?_
            refine zg_aload_n hX 0 rfl dX10_play_83 rfl 84 rfl ?_
            refine zg_dup hX rfl dX10_play_84 85 rfl ?_
            refine mg_0_8 hX mw_649 (ep (sE σ) : Int) h.2.2.1.2.1 dX10_play_85 88 rfl ?_
            refine zg_iconst hX dX10_play_88 89 rfl ?_
            refine zg_iadd hX dX10_play_89 90 rfl ?_
            refine mp_0_8 hX mw_649 dX10_play_90 93 rfl ?_
            refine zg_iload_n hX 1 rfl dX10_play_93 rfl 94 rfl ?_
            exact zg_iret hX hR (Nat.le_refl _) (Nat.le_refl _) rfl dX10_play_94 (qM_ret (by unfold o_play; rw [if_pos (by omega)]) (m_play h (fun j hj => by rw [hRk j (by omega), hf35 j (by omega), hf30 j (by omega) (by omega) (by omega), hl22.1 j (by omega)]) (fun p hp => by rw [hRo _ (by omega), ha35 p hp]; exact hs30 p hp) (fun p hp => hR2a p (by omega)) (fun j a b => by rw [hRo j b, h335 j a])))
          · refine zg_aload_n hX 0 rfl dX10_play_48 rfl 49 rfl ?_
            refine mg_0_13 hX mw_654 dX10_play_49 52 rfl ?_
            refine zg_iconst hX dX10_play_52 53 rfl ?_
            refine zg_iload_n hX 2 rfl dX10_play_53 rfl 54 rfl ?_
            refine zg_imul hX dX10_play_54 55 rfl ?_
            refine zg_iconst hX dX10_play_55 56 rfl ?_
            refine zg_iadd hX dX10_play_56 57 rfl ?_
            refine zg_dup2 hX rfl rfl dX10_play_57 58 rfl ?_
            refine ma_4 hX (4 * i + 2) (eo (sE σ) i : Int) (by omega) (by omega) (by rw [hR2b i (Nat.le_refl _), h335 _ (by omega)]; exact h.2.2.1.2.2.2.2.2.2.1 i (by omega)) dX10_play_58 59 rfl ?_
            refine zg_aload_n hX 0 rfl dX10_play_59 rfl 60 rfl ?_
            refine mg_0_17 hX mw_658 dX10_play_60 63 rfl ?_
            refine zg_iload_n hX 2 rfl dX10_play_63 rfl 64 rfl ?_
            refine ma_7 hX i (sh (sr σ) (ep (sE σ)) (st σ) i : Int) (by omega) (by omega) (by rw [hRk 6 (by decide), hf35 6 (by decide)]; exact ht30 i (by omega)) dX10_play_64 65 rfl ?_
            refine zg_iadd hX dX10_play_65 66 rfl ?_
            refine ms_4 hX (4 * i + 2) (by omega) (by omega) dX10_play_66 67 rfl ?_
            refine zg_iinc hX [(2, .int (zI ((i : Int) + 1))), (0, .ref (q 0)), (1, .int (zI (lo (sr σ) (ep (sE σ)) (st σ) : Int)))] 2 rfl dX10_play_67 (by decide) rfl 70 rfl ?_
            refine zg_goto hX dX10_play_70 40 (by decide) ?_
            exact zg_lv _ [1, 2, 0] rfl (ih40 (i + 1) (pu R1 3 (pu (R1 3) (4 * i + 2) ((eo (sE σ) i : Int) + (sh (sr σ) (ep (sE σ)) (st σ) i : Int)))) _ (by omega) (by omega) (fun k hk => by rw [pu_ne _ _ hk]; exact hRk k hk) (fun j hj => by rw [pu_eq, pu_ne _ _ (by omega)]; exact hRo j hj) (fun p hp => by
                rw [pu_eq, pu_at]; split
                · next e => rw [show p = i by omega]
                · exact hR2a p (by omega)) (fun p hp => by rw [pu_eq, pu_ne _ _ (by omega)]; exact hR2b p (by omega)) (by omega))
      exact zg_lv _ [2, 1, 0] rfl (L40 _ 0 R35 _ (Nat.lt_succ_self _) (by omega) (fun _ _ => rfl) (fun _ _ => rfl) (fun p hp => absurd hp (Nat.not_lt_zero p)) (fun _ _ => rfl) (rfl))
    · refine zg_bipush hX dX10_play_18 20 rfl (by decide) ?_
      exact zg_iret hX hR (Nat.le_refl _) (Nat.le_refl _) rfl dX10_play_20 (qM_ret (by unfold o_play; rw [if_neg (by omega)]) h)
-- Model.again
set_option maxRecDepth 20000 in
theorem c_X10_again (l : Launch) (D : va_G) (cI : ClassId) (q : Nat → Nat) (f : Nat → Int) (r : Nat → Nat → Int) (σ : Sg) (B : Nat)  (hσ : sOK σ B) (hB : B ≤ 100) (h : MRel f r σ) : Cn l D cI yX10_again cX10_again 2 (some .int) 1 0 0 [.ref (q 0)] (mW cI q f r) (qM cI q (o_again σ)) := by
  refine Cn.of [(0, .ref (q 0))] (by decide +kernel) (Nat.le_of_ble_eq_true rfl) rfl (fun X hX hR => ?_)
  have hsl := hσ.1
  have hg6 := hσ.2.1
  have hP := hσ.2.2.1
  have hE := hσ.2.2.2.1
  have hpb6 := hP.1
  have hpL9 := hP.2.1
  have hn4 := hE.1
  have hT6 := hE.2.2.2.2.1
  have hep := hE.2.2.2.2.2.2.2
  have hbk := hE.2.2.2.2.2.2.1
  have hs1 := hσ.2.2.2.2.2.1
  have hs2 := hσ.2.2.2.2.2.2.1
  have hs3 := hσ.2.2.2.2.2.2.2.1
  have hbd := hσ.2.2.2.2.2.2.2.2.1
  have hρ : RuOK (sr σ) := rho_OK hP hE
  have ht : tk (sr σ) (st σ) := rho_tk hE
  have hrb : rb (sr σ) = pb (sP σ) := rfl
  have hrn : rn (sr σ) = en (sE σ) := rfl
  have hrl : rl (sr σ) = pL (sP σ) := rfl
  have hm : mR f r (sr σ) := mR_of h.2.1 h.2.2.1
  refine zg_aload_n hX 0 rfl dX10_again_0 rfl 1 rfl ?_
  refine zg_callVi (As := []) (rest := []) (k0 := 0) (ci := 9) hX (c_X10_lacks l D cI q f r (sr σ) hρ hm) mw_781 mw_783 mw_s14 mw_10 mw_784 sg_X10_lacks (by decide) (by decide) (Nat.le_refl _) (Nat.le_refl _) rfl rfl rfl (Nat.le_of_ble_eq_true rfl) dX10_again_1 4 rfl ?_
  refine zg_ifb_eq hX dX10_again_4 10 (by decide) 7 rfl (fun h4 => ?_) (fun h4 => ?_)
  · have hlk := of_decide_eq_false h4
    refine zg_aload_n hX 0 rfl dX10_again_10 rfl 11 rfl ?_
    refine mg_0_8 hX mw_649 (ep (sE σ) : Int) h.2.2.1.2.1 dX10_again_11 14 rfl ?_
    refine zg_istore_n hX [(1, .int (zI (ep (sE σ) : Int))), (0, .ref (q 0))] dX10_again_14 rfl (by decide) rfl 15 rfl ?_
    refine zg_aload_n hX 1 rfl dX10_again_15 rfl 16 rfl ?_
    refine zg_iconst hX dX10_again_16 17 rfl ?_
    refine mp_0_8 hX mw_649 dX10_again_17 20 rfl ?_
    refine zg_iload_n hX 0 rfl dX10_again_20 rfl 21 rfl ?_
    exact zg_iret hX hR (Nat.le_refl _) (Nat.le_refl _) rfl dX10_again_21 (qM_ret (by unfold o_again; rw [if_neg (by omega)]) (m_again h))
  · have hlk := of_decide_eq_true h4
    refine zg_bipush hX dX10_again_7 9 rfl (by decide) ?_
    exact zg_iret hX hR (Nat.le_refl _) (Nat.le_refl _) rfl dX10_again_9 (qM_ret (by unfold o_again; rw [if_pos (by omega)]) h)
-- Model.hearingOf
set_option maxRecDepth 20000 in
theorem c_X10_hearingOf (l : Launch) (D : va_G) (cI : ClassId) (q : Nat → Nat) (f : Nat → Int) (r : Nat → Nat → Int) (σ : Sg) (B : Nat) (w : Int) (hσ : sOK σ B) (hB : B ≤ 100) (h : MRel f r σ) (hw : -2147483648 ≤ w ∧ w < 2147483648) : Cn l D cI yX10_hearingOf cX10_hearingOf 6 (some .int) 6 0 0 [.ref (q 0), .int (zI w)] (mW cI q f r) (pR (mW cI q f) (fun v r1 => v = some (.int (zI (if w = 0 then hear0 σ else hear1 σ))) ∧ frR r r1)) := by
  refine Cn.of [(0, .ref (q 0)), (1, .int (zI w))] (by decide +kernel) (Nat.le_of_ble_eq_true rfl) rfl (fun X hX hR => ?_)
  have hsl := hσ.1
  have hg6 := hσ.2.1
  have hP := hσ.2.2.1
  have hE := hσ.2.2.2.1
  have hpb6 := hP.1
  have hpL9 := hP.2.1
  have hn4 := hE.1
  have hT6 := hE.2.2.2.2.1
  have hep := hE.2.2.2.2.2.2.2
  have hbk := hE.2.2.2.2.2.2.1
  have hs1 := hσ.2.2.2.2.2.1
  have hs2 := hσ.2.2.2.2.2.2.1
  have hs3 := hσ.2.2.2.2.2.2.2.1
  have hbd := hσ.2.2.2.2.2.2.2.2.1
  have hρ : RuOK (sr σ) := rho_OK hP hE
  have ht : tk (sr σ) (st σ) := rho_tk hE
  have hrb : rb (sr σ) = pb (sP σ) := rfl
  have hrn : rn (sr σ) = en (sE σ) := rfl
  have hrl : rl (sr σ) = pL (sP σ) := rfl
  have hm : mR f r (sr σ) := mR_of h.2.1 h.2.2.1
  refine zg_aload_n hX 0 rfl dX10_hearingOf_0 rfl 1 rfl ?_
  refine zg_callV (As := []) (rest := []) (k0 := 0) (ci := 9) hX (c_X10_asItIs l D cI q f r (sr σ) hρ (mR_of h.2.1 h.2.2.1)) mw_797 mw_799 mw_s17 mw_10 mw_800 sg_X10_asItIs (by decide) (by decide) (Nat.le_refl _) (Nat.le_refl _) rfl rfl rfl (Nat.le_of_ble_eq_true rfl) dX10_hearingOf_1 4 rfl (fun v1 W1 hp1 => ?_)
  obtain ⟨R1, rfl, rfl, hl1⟩ := hp1
  show G X 6 0 0 (mW cI q f R1) [(0, .ref (q 0)), (1, .int (zI w))] 4 []
  have hx1 : frR r R1 := frR_lay hl1 (by omega)
  have hr1 : MRel f R1 σ := MRel_r h hx1
  have hn1 : ∀ p, p < rn (sr σ) → R1 5 p = (st σ p : Int) := fun p hp => (hl1.2 p hp).trans (h.2.2.1.2.2.2.2.2.1 p hp)
  have hm1 : mR f R1 (sr σ) := mR_of hr1.2.1 hr1.2.2.1
  refine zg_iconst hX dX10_hearingOf_4 5 rfl ?_
  refine zg_istore_n hX [(2, .int (zI 0)), (0, .ref (q 0)), (1, .int (zI w))] dX10_hearingOf_5 rfl (by decide) rfl 6 rfl ?_
  refine zg_iconst hX dX10_hearingOf_6 7 rfl ?_
  refine zg_istore_n hX [(3, .int (zI (-1))), (2, .int (zI 0)), (0, .ref (q 0)), (1, .int (zI w))] dX10_hearingOf_7 rfl (by decide) rfl 8 rfl ?_
  refine zg_iconst hX dX10_hearingOf_8 9 rfl ?_
  refine zg_istore hX [(4, .int (zI 0)), (3, .int (zI (-1))), (2, .int (zI 0)), (0, .ref (q 0)), (1, .int (zI w))] dX10_hearingOf_9 (by decide) rfl 11 rfl ?_
  have L11 : ∀ (fuel : Nat) (i : Nat) (R2 : Nat → Nat → Int) (x11_2 : Int) (x11_3 : Int) (x11_4 : Int), (pb (sP σ) - i < fuel) → (i ≤ pb (sP σ)) → (frR r R2) → (MRel f R2 σ) → (∀ p, p < rn (sr σ) → R2 5 p = (ru (sr σ) (st σ) i p : Int)) → x11_2 = (su (ls (sr σ) (st σ)) i : Int) → x11_3 = (fz (ls (sr σ) (st σ)) 0 i) → x11_4 = (i : Int) → G X 6 0 0 (mW cI q f R2) [(0, .ref (q 0)), (1, .int (zI w)), (2, .int (zI x11_2)), (3, .int (zI x11_3)), (4, .int (zI x11_4))] 11 [] := by
    intro fuel
    induction fuel with
    | zero =>
      intro i R2 x11_2 x11_3 x11_4 hm11
      exact absurd hm11 (Nat.not_lt_zero _)
    | succ fuel ih11 =>
      intro i R2 x11_2 x11_3 x11_4 hm11 hi hx2 hrl2 hn2 ex11_2 ex11_3 ex11_4
      subst ex11_2
      subst ex11_3
      subst ex11_4
      refine zg_iload hX 4 rfl dX10_hearingOf_11 13 rfl ?_
      refine zg_aload_n hX 0 rfl dX10_hearingOf_13 rfl 14 rfl ?_
      refine mg_0_6 hX mw_647 (pb (sP σ) : Int) h.2.1.1 dX10_hearingOf_14 17 rfl ?_
      refine zg_icmp_ge hX (by omega) (by omega) dX10_hearingOf_17 56 (by decide) 20 rfl (fun h17 => ?_) (fun h17 => ?_)
      · refine zg_iload_n hX 1 rfl dX10_hearingOf_56 rfl 57 rfl ?_
        refine zg_if_ne hX (by omega) dX10_hearingOf_57 64 (by decide) 60 rfl (fun h57 => ?_) (fun h57 => ?_)
        · refine zg_iload_n hX 3 rfl dX10_hearingOf_64 rfl 65 rfl ?_
          exact zg_iret hX hR (Nat.le_refl _) (Nat.le_refl _) rfl dX10_hearingOf_65 (⟨R2, rfl, by first | (rw [if_neg (by omega), show i = pb (sP σ) by omega]; rfl) | (rw [if_pos (by omega), show i = pb (sP σ) by omega]; rfl), hx2⟩)
        · refine zg_iload_n hX 2 rfl dX10_hearingOf_60 rfl 61 rfl ?_
          refine zg_goto hX dX10_hearingOf_61 65 (by decide) ?_
          exact zg_iret hX hR (Nat.le_refl _) (Nat.le_refl _) rfl dX10_hearingOf_65 (⟨R2, rfl, by first | (rw [if_neg (by omega), show i = pb (sP σ) by omega]; rfl) | (rw [if_pos (by omega), show i = pb (sP σ) by omega]; rfl), hx2⟩)
      · refine zg_aload_n hX 0 rfl dX10_hearingOf_20 rfl 21 rfl ?_
        refine zg_iload hX 4 rfl dX10_hearingOf_21 23 rfl ?_
        refine zg_callV (As := [.int (zI (i : Int))]) (rest := []) (k0 := 0) (ci := 9) hX (c_X10_plays l D cI q f R2 (sr σ) (ru (sr σ) (st σ) i) i hρ (mR_of hrl2.2.1 hrl2.2.2.1) hn2 (tk_ru ht i) (by omega)) mw_805 mw_807 mw_s19 mw_10 mw_808 sg_X10_plays (by decide) (by decide) (Nat.le_refl _) (Nat.le_refl _) rfl rfl rfl (Nat.le_of_ble_eq_true rfl) dX10_hearingOf_23 26 rfl (fun v23 W23 hp23 => ?_)
        obtain ⟨R23, rfl, rfl, hf23, hs23, -⟩ := hp23
        show G X 6 0 0 (mW cI q f R23) [(0, .ref (q 0)), (1, .int (zI w)), (2, .int (zI (su (ls (sr σ) (st σ)) i : Int))), (3, .int (zI (fz (ls (sr σ) (st σ)) 0 i))), (4, .int (zI (i : Int)))] 26 [.int (zI (ls (sr σ) (st σ) i : Int))]
        have hl4 := ls_4 (st σ) hρ i
        have hfs := fz_snoc (ls (sr σ) (st σ)) 0 i
        rw [Nat.zero_add] at hfs
        have hf1 : ¬ fz (ls (sr σ) (st σ)) 0 i = -1 → fz (ls (sr σ) (st σ)) 0 (i + 1) = fz (ls (sr σ) (st σ)) 0 i := fun e => by rw [hfs, if_neg e]
        have hf2 : fz (ls (sr σ) (st σ)) 0 i = -1 → 0 < ls (sr σ) (st σ) i → fz (ls (sr σ) (st σ)) 0 (i + 1) = (i : Int) := fun e e2 => by rw [hfs, if_pos e, if_pos e2]
        have hf3 : fz (ls (sr σ) (st σ)) 0 i = -1 → ¬ 0 < ls (sr σ) (st σ) i → fz (ls (sr σ) (st σ)) 0 (i + 1) = fz (ls (sr σ) (st σ)) 0 i := fun e e2 => by rw [hfs, if_pos e, if_neg e2, e]
        have hfr := fz_rng (ls (sr σ) (st σ)) i 0
        refine zg_istore hX [(5, .int (zI (ls (sr σ) (st σ) i : Int))), (0, .ref (q 0)), (1, .int (zI w)), (2, .int (zI (su (ls (sr σ) (st σ)) i : Int))), (3, .int (zI (fz (ls (sr σ) (st σ)) 0 i))), (4, .int (zI (i : Int)))] dX10_hearingOf_26 (by decide) rfl 28 rfl ?_
        refine zg_iload_n hX 3 rfl dX10_hearingOf_28 rfl 29 rfl ?_
        refine zg_iload hX 0 rfl dX10_hearingOf_29 31 rfl ?_
        refine zg_iadd hX dX10_hearingOf_31 32 rfl ?_
        refine zg_istore_n hX [(2, .int (zI ((su (ls (sr σ) (st σ)) i : Int) + (ls (sr σ) (st σ) i : Int)))), (5, .int (zI (ls (sr σ) (st σ) i : Int))), (0, .ref (q 0)), (1, .int (zI w)), (3, .int (zI (fz (ls (sr σ) (st σ)) 0 i))), (4, .int (zI (i : Int)))] dX10_hearingOf_32 rfl (by decide) rfl 33 rfl ?_
        refine zg_iload_n hX 4 rfl dX10_hearingOf_33 rfl 34 rfl ?_
        refine zg_iconst hX dX10_hearingOf_34 35 rfl ?_
        have J49 : ∀ xj : Int, xj = (fz (ls (sr σ) (st σ)) 0 (i + 1)) → G X 6 0 0 (mW cI q f R23) [(2, .int (zI ((su (ls (sr σ) (st σ)) i : Int) + (ls (sr σ) (st σ) i : Int)))), (5, .int (zI (ls (sr σ) (st σ) i : Int))), (0, .ref (q 0)), (1, .int (zI w)), (3, .int (zI (fz (ls (sr σ) (st σ)) 0 i))), (4, .int (zI (i : Int)))] 49 [.int (zI xj)] := by
          intro xj hx49
          subst hx49
          refine zg_istore_n hX [(3, .int (zI (fz (ls (sr σ) (st σ)) 0 (i + 1)))), (2, .int (zI ((su (ls (sr σ) (st σ)) i : Int) + (ls (sr σ) (st σ) i : Int)))), (5, .int (zI (ls (sr σ) (st σ) i : Int))), (0, .ref (q 0)), (1, .int (zI w)), (4, .int (zI (i : Int)))] dX10_hearingOf_49 rfl (by decide) rfl 50 rfl ?_
          refine zg_iinc hX [(4, .int (zI ((i : Int) + 1))), (3, .int (zI (fz (ls (sr σ) (st σ)) 0 (i + 1)))), (2, .int (zI ((su (ls (sr σ) (st σ)) i : Int) + (ls (sr σ) (st σ) i : Int)))), (5, .int (zI (ls (sr σ) (st σ) i : Int))), (0, .ref (q 0)), (1, .int (zI w))] 5 rfl dX10_hearingOf_50 (by decide) rfl 53 rfl ?_
          refine zg_goto hX dX10_hearingOf_53 11 (by decide) ?_
          exact zg_lv _ [4, 5, 2, 1, 0] rfl (ih11 (i + 1) R23 _ _ _ (by omega) (by omega) (hx2.tr (frR_567 hf23)) (MRel_r hrl2 (frR_567 hf23)) (hs23) (by simp only [su]; omega) (rfl) (by omega))
        refine zg_icmp_ne hX (by omega) (by omega) dX10_hearingOf_35 48 (by decide) 38 rfl (fun h35 => ?_) (fun h35 => ?_)
        · refine zg_iload_n hX 4 rfl dX10_hearingOf_48 rfl 49 rfl ?_
          exact J49 _ (by first | exact (hf1 (by omega)).symm | exact (hf2 (by omega) (by omega)).symm | exact (hf3 (by omega) (by omega)).symm | (rw [hf1 (by omega)]; done) | (rw [hf2 (by omega) (by omega)]; done) | (rw [hf3 (by omega) (by omega)]; done))
        · refine zg_iload hX 1 rfl dX10_hearingOf_38 40 rfl ?_
          refine zg_if_le hX (by omega) dX10_hearingOf_40 48 (by decide) 43 rfl (fun h40 => ?_) (fun h40 => ?_)
          · refine zg_iload_n hX 4 rfl dX10_hearingOf_48 rfl 49 rfl ?_
            exact J49 _ (by first | exact (hf1 (by omega)).symm | exact (hf2 (by omega) (by omega)).symm | exact (hf3 (by omega) (by omega)).symm | (rw [hf1 (by omega)]; done) | (rw [hf2 (by omega) (by omega)]; done) | (rw [hf3 (by omega) (by omega)]; done))
          · refine zg_iload hX 5 rfl dX10_hearingOf_43 45 rfl ?_
            refine zg_goto hX dX10_hearingOf_45 49 (by decide) ?_
            exact J49 _ (by first | exact (hf1 (by omega)).symm | exact (hf2 (by omega) (by omega)).symm | exact (hf3 (by omega) (by omega)).symm | (rw [hf1 (by omega)]; done) | (rw [hf2 (by omega) (by omega)]; done) | (rw [hf3 (by omega) (by omega)]; done))
  exact zg_lv _ [3, 4, 2, 1, 0] rfl (L11 _ 0 R1 _ _ _ (Nat.lt_succ_self _) (by omega) (hx1) (hr1) (hn1) (rfl) (rfl) (rfl))
-- Model.hearing
set_option maxRecDepth 20000 in
theorem c_X10_hearing (l : Launch) (D : va_G) (cI : ClassId) (q : Nat → Nat) (f : Nat → Int) (r : Nat → Nat → Int) (σ : Sg) (B : Nat) (a : Int) (hσ : sOK σ B) (hB : B ≤ 100) (h : MRel f r σ) (ha : -2147483648 ≤ a ∧ a < 2147483648) : Cn l D cI yX10_hearing cX10_hearing 2 (some .int) 7 0 0 [.ref (q 0), .int (zI a)] (mW cI q f r) (qM cI q (o_hearing σ a)) := by
  refine Cn.of [(0, .ref (q 0)), (1, .int (zI a))] (by decide +kernel) (Nat.le_of_ble_eq_true rfl) rfl (fun X hX hR => ?_)
  have hsl := hσ.1
  have hg6 := hσ.2.1
  have hP := hσ.2.2.1
  have hE := hσ.2.2.2.1
  have hpb6 := hP.1
  have hpL9 := hP.2.1
  have hn4 := hE.1
  have hT6 := hE.2.2.2.2.1
  have hep := hE.2.2.2.2.2.2.2
  have hbk := hE.2.2.2.2.2.2.1
  have hs1 := hσ.2.2.2.2.2.1
  have hs2 := hσ.2.2.2.2.2.2.1
  have hs3 := hσ.2.2.2.2.2.2.2.1
  have hbd := hσ.2.2.2.2.2.2.2.2.1
  have hρ : RuOK (sr σ) := rho_OK hP hE
  have ht : tk (sr σ) (st σ) := rho_tk hE
  have hrb : rb (sr σ) = pb (sP σ) := rfl
  have hrn : rn (sr σ) = en (sE σ) := rfl
  have hrl : rl (sr σ) = pL (sP σ) := rfl
  have hm : mR f r (sr σ) := mR_of h.2.1 h.2.2.1
  refine zg_iload_n hX 1 rfl dX10_hearing_0 rfl 1 rfl ?_
  refine zg_i2l hX (by omega) dX10_hearing_1 2 rfl ?_
  refine zg_lconst (a := 0) hX (by decide) dX10_hearing_2 3 rfl ?_
  refine zg_lconst (a := 1) hX (by decide) dX10_hearing_3 4 rfl ?_
  refine zg_callSi (As := [.long (zL a), .long (zL 0), .long (zL 1)]) (rest := []) hX (c_X10_in l D cI _ a 0 1 (by omega) (by omega) (by omega)) mw_746 mw_747 mw_10 mw_748 sg_X10_in.2 (by decide) (by decide) (Nat.le_refl _) (Nat.le_refl _) rfl (Nat.le_of_ble_eq_true rfl) dX10_hearing_4 7 rfl ?_
  refine zg_ifb_ne hX dX10_hearing_7 13 (by decide) 10 rfl (fun h7 => ?_) (fun h7 => ?_)
  · have h7a := of_decide_eq_true h7
    refine zg_aload_n hX 0 rfl dX10_hearing_13 rfl 14 rfl ?_
    refine zg_callVi (As := []) (rest := []) (k0 := 0) (ci := 9) hX (c_X10_lacks l D cI q f r (sr σ) hρ hm) mw_781 mw_783 mw_s14 mw_10 mw_784 sg_X10_lacks (by decide) (by decide) (Nat.le_refl _) (Nat.le_refl _) rfl rfl rfl (Nat.le_of_ble_eq_true rfl) dX10_hearing_14 17 rfl ?_
    refine zg_ifb_eq hX dX10_hearing_17 25 (by decide) 20 rfl (fun h17 => ?_) (fun h17 => ?_)
    · have hlk := of_decide_eq_false h17
      refine zg_aload_n hX 0 rfl dX10_hearing_25 rfl 26 rfl ?_
      refine zg_iload_n hX 1 rfl dX10_hearing_26 rfl 27 rfl ?_
      refine zg_callV (As := [.int (zI a)]) (rest := []) (k0 := 0) (ci := 9) hX (c_X10_hearingOf l D cI q f r σ B a hσ hB h ha) mw_880 mw_882 mw_s30 mw_10 mw_883 sg_X10_hearingOf (by decide) (by decide) (Nat.le_refl _) (Nat.le_refl _) rfl rfl rfl (Nat.le_of_ble_eq_true rfl) dX10_hearing_27 30 rfl (fun v27 W27 hp27 => ?_)
      obtain ⟨R27, rfl, rfl, hf27⟩ := hp27
      show G X 2 0 0 (mW cI q f R27) [(0, .ref (q 0)), (1, .int (zI a))] 30 [.int (zI (if a = 0 then hear0 σ else hear1 σ))]
      exact zg_iret hX hR (Nat.le_refl _) (Nat.le_refl _) rfl dX10_hearing_30 (by first | exact qM_ret (by unfold o_hearing; rw [if_pos (by omega), if_pos (by omega)]) h | exact qM_ret (by unfold o_hearing; rw [if_pos (by omega), if_neg (by omega)]) (MRel_r h hf27))
    · have hlk := of_decide_eq_true h17
      refine zg_bipush hX dX10_hearing_20 22 rfl (by decide) ?_
      refine zg_goto hX dX10_hearing_22 30 (by decide) ?_
      exact zg_iret hX hR (Nat.le_refl _) (Nat.le_refl _) rfl dX10_hearing_30 (by first | exact qM_ret (by unfold o_hearing; rw [if_pos (by omega), if_pos (by omega)]) h | exact qM_ret (by unfold o_hearing; rw [if_pos (by omega), if_neg (by omega)]) (MRel_r h hf27))
  · have h7a := of_decide_eq_false h7
    refine zg_bipush hX dX10_hearing_10 12 rfl (by decide) ?_
    exact zg_iret hX hR (Nat.le_refl _) (Nat.le_refl _) rfl dX10_hearing_12 (qM_ret (by unfold o_hearing; rw [if_neg (by omega)]) h)
-- Model.tell
set_option maxRecDepth 20000 in
theorem c_X10_tell (l : Launch) (D : va_G) (cI : ClassId) (q : Nat → Nat) (f : Nat → Int) (r : Nat → Nat → Int) (σ : Sg) (B : Nat) (a b : Int) (hσ : sOK σ B) (hB : B ≤ 100) (h : MRel f r σ) (ha : -2147483648 ≤ a ∧ a < 2147483648) (hb : -2147483648 ≤ b ∧ b < 2147483648) : Cn l D cI yX10_tell cX10_tell 3 (some .int) 2 0 0 [.ref (q 0), .int (zI a), .int (zI b)] (mW cI q f r) (qM cI q (o_tell σ a b)) := by
  refine Cn.of [(0, .ref (q 0)), (1, .int (zI a)), (2, .int (zI b))] (by decide +kernel) (Nat.le_of_ble_eq_true rfl) rfl (fun X hX hR => ?_)
  have hsl := hσ.1
  have hg6 := hσ.2.1
  have hP := hσ.2.2.1
  have hE := hσ.2.2.2.1
  have hpb6 := hP.1
  have hpL9 := hP.2.1
  have hn4 := hE.1
  have hT6 := hE.2.2.2.2.1
  have hep := hE.2.2.2.2.2.2.2
  have hbk := hE.2.2.2.2.2.2.1
  have hs1 := hσ.2.2.2.2.2.1
  have hs2 := hσ.2.2.2.2.2.2.1
  have hs3 := hσ.2.2.2.2.2.2.2.1
  have hbd := hσ.2.2.2.2.2.2.2.2.1
  have hρ : RuOK (sr σ) := rho_OK hP hE
  have ht : tk (sr σ) (st σ) := rho_tk hE
  have hrb : rb (sr σ) = pb (sP σ) := rfl
  have hrn : rn (sr σ) = en (sE σ) := rfl
  have hrl : rl (sr σ) = pL (sP σ) := rfl
  have hm : mR f r (sr σ) := mR_of h.2.1 h.2.2.1
  refine zg_aload_n hX 0 rfl dX10_tell_0 rfl 1 rfl ?_
  refine zg_iload_n hX 1 rfl dX10_tell_1 rfl 2 rfl ?_
  refine zg_callVi (As := [.int (zI a)]) (rest := []) (k0 := 0) (ci := 9) hX (c_X10_isBar l D cI q f r (sr σ) a hρ hm ha) mw_789 mw_791 mw_s15 mw_10 mw_792 sg_X10_isBar (by decide) (by decide) (Nat.le_refl _) (Nat.le_refl _) rfl rfl rfl (Nat.le_of_ble_eq_true rfl) dX10_tell_2 5 rfl ?_
  refine zg_ifb_ne hX dX10_tell_5 11 (by decide) 8 rfl (fun h5 => ?_) (fun h5 => ?_)
  · have h5a := of_decide_eq_true h5
    refine zg_iload_n hX 2 rfl dX10_tell_11 rfl 12 rfl ?_
    refine zg_i2l hX (by omega) dX10_tell_12 13 rfl ?_
    refine zg_lconst (a := 0) hX (by decide) dX10_tell_13 14 rfl ?_
    refine zg_ldc2 (a := 4) hX mw_768 (by decide) dX10_tell_14 17 rfl ?_
    refine zg_callSi (As := [.long (zL b), .long (zL 0), .long (zL 4)]) (rest := []) hX (c_X10_in l D cI _ b 0 4 (by omega) (by omega) (by omega)) mw_746 mw_747 mw_10 mw_748 sg_X10_in.2 (by decide) (by decide) (Nat.le_refl _) (Nat.le_refl _) rfl (Nat.le_of_ble_eq_true rfl) dX10_tell_17 20 rfl ?_
    refine zg_ifb_ne hX dX10_tell_20 26 (by decide) 23 rfl (fun h20 => ?_) (fun h20 => ?_)
    · have h20a := of_decide_eq_true h20
      refine zg_aload_n hX 0 rfl dX10_tell_26 rfl 27 rfl ?_
      refine mg_0_14 hX mw_655 (eT (sE σ) : Int) h.2.2.1.2.2.2.1 dX10_tell_27 30 rfl ?_
      refine zg_bipush hX dX10_tell_30 32 rfl (by decide) ?_
      refine zg_icmp_ne hX (by omega) (by omega) dX10_tell_32 38 (by decide) 35 rfl (fun h32 => ?_) (fun h32 => ?_)
      · refine zg_aload_n hX 0 rfl dX10_tell_38 rfl 39 rfl ?_
        refine mg_0_15 hX mw_656 dX10_tell_39 42 rfl ?_
        refine zg_iconst hX dX10_tell_42 43 rfl ?_
        refine zg_aload_n hX 0 rfl dX10_tell_43 rfl 44 rfl ?_
        refine mg_0_14 hX mw_655 (eT (sE σ) : Int) h.2.2.1.2.2.2.1 dX10_tell_44 47 rfl ?_
        refine zg_imul hX dX10_tell_47 48 rfl ?_
        refine zg_iload_n hX 1 rfl dX10_tell_48 rfl 49 rfl ?_
        refine ms_5 hX (2 * eT (sE σ)) (by omega) (by omega) dX10_tell_49 50 rfl ?_
        refine zg_aload_n hX 0 rfl dX10_tell_50 rfl 51 rfl ?_
        refine mg_0_15 hX mw_656 dX10_tell_51 54 rfl ?_
        refine zg_iconst hX dX10_tell_54 55 rfl ?_
        refine zg_aload_n hX 0 rfl dX10_tell_55 rfl 56 rfl ?_
        refine mg_0_14 hX mw_655 (eT (sE σ) : Int) h.2.2.1.2.2.2.1 dX10_tell_56 59 rfl ?_
        refine zg_imul hX dX10_tell_59 60 rfl ?_
        refine zg_iconst hX dX10_tell_60 61 rfl ?_
        refine zg_iadd hX dX10_tell_61 62 rfl ?_
        refine zg_iload_n hX 2 rfl dX10_tell_62 rfl 63 rfl ?_
        refine ms_5 hX (2 * eT (sE σ) + 1) (by omega) (by omega) dX10_tell_63 64 rfl ?_
        refine zg_aload_n hX 0 rfl dX10_tell_64 rfl 65 rfl ?_
        refine zg_dup hX rfl dX10_tell_65 66 rfl ?_
        refine mg_0_14 hX mw_655 (eT (sE σ) : Int) h.2.2.1.2.2.2.1 dX10_tell_66 69 rfl ?_
        refine zg_iconst hX dX10_tell_69 70 rfl ?_
        refine zg_iadd hX dX10_tell_70 71 rfl ?_
        refine mp_0_14 hX mw_655 dX10_tell_71 74 rfl ?_
        refine zg_aload_n hX 0 rfl dX10_tell_74 rfl 75 rfl ?_
        refine mg_0_14 hX mw_655 ((eT (sE σ) : Int) + 1) rfl dX10_tell_75 78 rfl ?_
        exact zg_iret hX hR (Nat.le_refl _) (Nat.le_refl _) rfl dX10_tell_78 (qM_ret (by unfold o_tell; rw [if_pos (by omega), if_pos (by omega), if_neg (by omega)]) (m_tell h (by omega) (by omega)))
      · refine zg_bipush hX dX10_tell_35 37 rfl (by decide) ?_
        exact zg_iret hX hR (Nat.le_refl _) (Nat.le_refl _) rfl dX10_tell_37 (qM_ret (by unfold o_tell; rw [if_pos (by omega), if_pos (by omega), if_pos (by omega)]) h)
    · have h20a := of_decide_eq_false h20
      refine zg_bipush hX dX10_tell_23 25 rfl (by decide) ?_
      exact zg_iret hX hR (Nat.le_refl _) (Nat.le_refl _) rfl dX10_tell_25 (qM_ret (by unfold o_tell; rw [if_pos (by omega), if_neg (by omega)]) h)
  · have h5a := of_decide_eq_false h5
    refine zg_bipush hX dX10_tell_8 10 rfl (by decide) ?_
    exact zg_iret hX hR (Nat.le_refl _) (Nat.le_refl _) rfl dX10_tell_10 (qM_ret (by unfold o_tell; rw [if_neg (by omega)]) h)
-- Model.forget
set_option maxRecDepth 20000 in
theorem c_X10_forget (l : Launch) (D : va_G) (cI : ClassId) (q : Nat → Nat) (f : Nat → Int) (r : Nat → Nat → Int) (σ : Sg) (B : Nat)  (hσ : sOK σ B) (hB : B ≤ 100) (h : MRel f r σ) : Cn l D cI yX10_forget cX10_forget 2 (some .int) 0 0 0 [.ref (q 0)] (mW cI q f r) (qM cI q (o_forget σ)) := by
  refine Cn.of [(0, .ref (q 0))] (by decide +kernel) (Nat.le_of_ble_eq_true rfl) rfl (fun X hX hR => ?_)
  have hsl := hσ.1
  have hg6 := hσ.2.1
  have hP := hσ.2.2.1
  have hE := hσ.2.2.2.1
  have hpb6 := hP.1
  have hpL9 := hP.2.1
  have hn4 := hE.1
  have hT6 := hE.2.2.2.2.1
  have hep := hE.2.2.2.2.2.2.2
  have hbk := hE.2.2.2.2.2.2.1
  have hs1 := hσ.2.2.2.2.2.1
  have hs2 := hσ.2.2.2.2.2.2.1
  have hs3 := hσ.2.2.2.2.2.2.2.1
  have hbd := hσ.2.2.2.2.2.2.2.2.1
  have hρ : RuOK (sr σ) := rho_OK hP hE
  have ht : tk (sr σ) (st σ) := rho_tk hE
  have hrb : rb (sr σ) = pb (sP σ) := rfl
  have hrn : rn (sr σ) = en (sE σ) := rfl
  have hrl : rl (sr σ) = pL (sP σ) := rfl
  have hm : mR f r (sr σ) := mR_of h.2.1 h.2.2.1
  refine zg_aload_n hX 0 rfl dX10_forget_0 rfl 1 rfl ?_
  refine mg_0_14 hX mw_655 (eT (sE σ) : Int) h.2.2.1.2.2.2.1 dX10_forget_1 4 rfl ?_
  refine zg_istore_n hX [(1, .int (zI (eT (sE σ) : Int))), (0, .ref (q 0))] dX10_forget_4 rfl (by decide) rfl 5 rfl ?_
  refine zg_aload_n hX 1 rfl dX10_forget_5 rfl 6 rfl ?_
  refine zg_iconst hX dX10_forget_6 7 rfl ?_
  refine mp_0_14 hX mw_655 dX10_forget_7 10 rfl ?_
  refine zg_iload_n hX 0 rfl dX10_forget_10 rfl 11 rfl ?_
  exact zg_iret hX hR (Nat.le_refl _) (Nat.le_refl _) rfl dX10_forget_11 (qM_ret rfl (m_forget h))
-- Model.isSo
set_option maxRecDepth 20000 in
theorem c_X10_isSo (l : Launch) (D : va_G) (cI : ClassId) (q : Nat → Nat) (f : Nat → Int) (r : Nat → Nat → Int) (σ : Sg) (B : Nat) (p x : Nat) (hσ : sOK σ B) (hB : B ≤ 100) (h : MRel f r σ) (hp : p < en (sE σ)) (hx : x ≤ 9) : Cn l D cI yX10_isSo cX10_isSo 5 (some .boolean) 7 0 0 [.ref (q 0), .int (zI (p : Int)), .int (zI (x : Int))] (mW cI q f r) (pR (mW cI q f) (fun v r1 => v = some (.int (zI (b2 (gs σ p x)))) ∧ frR r r1)) := by
  refine Cn.of [(0, .ref (q 0)), (1, .int (zI (p : Int))), (2, .int (zI (x : Int)))] (by decide +kernel) (Nat.le_of_ble_eq_true rfl) rfl (fun X hX hR => ?_)
  have hsl := hσ.1
  have hg6 := hσ.2.1
  have hP := hσ.2.2.1
  have hE := hσ.2.2.2.1
  have hpb6 := hP.1
  have hpL9 := hP.2.1
  have hn4 := hE.1
  have hT6 := hE.2.2.2.2.1
  have hep := hE.2.2.2.2.2.2.2
  have hbk := hE.2.2.2.2.2.2.1
  have hs1 := hσ.2.2.2.2.2.1
  have hs2 := hσ.2.2.2.2.2.2.1
  have hs3 := hσ.2.2.2.2.2.2.2.1
  have hbd := hσ.2.2.2.2.2.2.2.2.1
  have hρ : RuOK (sr σ) := rho_OK hP hE
  have ht : tk (sr σ) (st σ) := rho_tk hE
  have hrb : rb (sr σ) = pb (sP σ) := rfl
  have hrn : rn (sr σ) = en (sE σ) := rfl
  have hrl : rl (sr σ) = pL (sP σ) := rfl
  have hm : mR f r (sr σ) := mR_of h.2.1 h.2.2.1
  refine zg_iconst hX dX10_isSo_0 1 rfl ?_
  refine zg_istore_n hX [(3, .int (zI 1)), (0, .ref (q 0)), (1, .int (zI (p : Int))), (2, .int (zI (x : Int)))] dX10_isSo_1 rfl (by decide) rfl 2 rfl ?_
  refine zg_iconst hX dX10_isSo_2 3 rfl ?_
  refine zg_istore hX [(4, .int (zI 0)), (3, .int (zI 1)), (0, .ref (q 0)), (1, .int (zI (p : Int))), (2, .int (zI (x : Int)))] dX10_isSo_3 (by decide) rfl 5 rfl ?_
  have L5 : ∀ (fuel : Nat) (k : Nat) (R2 : Nat → Nat → Int) (x5_3 : Int) (x5_4 : Int), (eT (sE σ) - k < fuel) → (k ≤ eT (sE σ)) → (frR r R2) → (MRel f R2 σ) → x5_3 = (b2 (so (sr σ) (pu (st σ) p x) (eb (sE σ)) (el (sE σ)) k)) → x5_4 = (k : Int) → G X 5 0 0 (mW cI q f R2) [(0, .ref (q 0)), (1, .int (zI (p : Int))), (2, .int (zI (x : Int))), (3, .int (zI x5_3)), (4, .int (zI x5_4))] 5 [] := by
    intro fuel
    induction fuel with
    | zero =>
      intro k R2 x5_3 x5_4 hm5
      exact absurd hm5 (Nat.not_lt_zero _)
    | succ fuel ih5 =>
      intro k R2 x5_3 x5_4 hm5 hk hx2 hrl2 ex5_3 ex5_4
      subst ex5_3
      subst ex5_4
      refine zg_iload hX 4 rfl dX10_isSo_5 7 rfl ?_
      refine zg_aload_n hX 0 rfl dX10_isSo_7 rfl 8 rfl ?_
      refine mg_0_14 hX mw_655 (eT (sE σ) : Int) h.2.2.1.2.2.2.1 dX10_isSo_8 11 rfl ?_
      refine zg_icmp_ge hX (by omega) (by omega) dX10_isSo_11 68 (by decide) 14 rfl (fun h11 => ?_) (fun h11 => ?_)
      · refine zg_iload_n hX 3 rfl dX10_isSo_68 rfl 69 rfl ?_
        exact zg_zret hX hR (Nat.le_refl _) (Nat.le_refl _) (by cases so (sr σ) (pu (st σ) p x) (eb (sE σ)) (el (sE σ)) k <;> decide) rfl dX10_isSo_69 (⟨R2, rfl, by unfold gs; rw [show eT (sE σ) = k by omega], hx2⟩)
      · refine zg_aload_n hX 0 rfl dX10_isSo_14 rfl 15 rfl ?_
        refine zg_callV (As := []) (rest := []) (k0 := 0) (ci := 9) hX (c_X10_asItIs l D cI q f R2 (sr σ) hρ (mR_of hrl2.2.1 hrl2.2.2.1)) mw_797 mw_799 mw_s17 mw_10 mw_800 sg_X10_asItIs (by decide) (by decide) (Nat.le_refl _) (Nat.le_refl _) rfl rfl rfl (Nat.le_of_ble_eq_true rfl) dX10_isSo_15 18 rfl (fun v15 W15 hp15 => ?_)
        obtain ⟨R15, rfl, rfl, hl15⟩ := hp15
        show G X 5 0 0 (mW cI q f R15) [(0, .ref (q 0)), (1, .int (zI (p : Int))), (2, .int (zI (x : Int))), (3, .int (zI (b2 (so (sr σ) (pu (st σ) p x) (eb (sE σ)) (el (sE σ)) k)))), (4, .int (zI (k : Int)))] 18 []
        have hx15 : frR R2 R15 := frR_lay hl15 (by omega)
        have hr15 : MRel f R15 σ := MRel_r hrl2 hx15
        have hn15 : ∀ p, p < rn (sr σ) → R15 5 p = (st σ p : Int) := fun p hp => (hl15.2 p hp).trans (hrl2.2.2.1.2.2.2.2.2.1 p hp)
        have hm15 : mR f R15 (sr σ) := mR_of hr15.2.1 hr15.2.2.1
        refine zg_aload_n hX 0 rfl dX10_isSo_18 rfl 19 rfl ?_
        refine mg_0_16 hX mw_657 dX10_isSo_19 22 rfl ?_
        refine zg_iload_n hX 1 rfl dX10_isSo_22 rfl 23 rfl ?_
        refine zg_iload_n hX 2 rfl dX10_isSo_23 rfl 24 rfl ?_
        refine ms_6 hX p (by omega) (by omega) dX10_isSo_24 25 rfl ?_
        have hnx : ∀ j, j < rn (sr σ) → (pu R15 5 (pu (R15 5) p (x : Int))) 5 j = ((pu (st σ) p x j : Nat) : Int) := fun j hj => by
          rw [pu_eq, pu_at, pu_at]; split
          · rfl
          · exact hn15 j hj
        have hxx : frR r (pu R15 5 (pu (R15 5) p (x : Int))) := (hx2.tr hx15).pr 5 _ (by omega)
        have hrx : MRel f (pu R15 5 (pu (R15 5) p (x : Int))) σ := MRel_r h hxx
        have htx : tk (sr σ) (pu (st σ) p x) := tk_pu ht hp (by omega)
        have hbk1 := hbk k (by omega)
        have hl4 := hE.2.2.2.2.2.1 k
        have hls := ls_4 (pu (st σ) p x) hρ (eb (sE σ) k)
        refine zg_iload_n hX 3 rfl dX10_isSo_25 rfl 26 rfl ?_
        refine zg_ifb_eq hX dX10_isSo_26 60 (by decide) 29 rfl (fun h26 => ?_) (fun h26 => ?_)
        · refine zg_iconst hX dX10_isSo_60 61 rfl ?_
          refine zg_istore_n hX [(3, .int (zI 0)), (0, .ref (q 0)), (1, .int (zI (p : Int))), (2, .int (zI (x : Int))), (4, .int (zI (k : Int)))] dX10_isSo_61 rfl (by decide) rfl 62 rfl ?_
          refine zg_iinc hX [(4, .int (zI ((k : Int) + 1))), (3, .int (zI 0)), (0, .ref (q 0)), (1, .int (zI (p : Int))), (2, .int (zI (x : Int)))] 4 rfl dX10_isSo_62 (by decide) rfl 65 rfl ?_
          refine zg_goto hX dX10_isSo_65 5 (by decide) ?_
          exact zg_lv _ [2, 3, 4, 1, 0] rfl (ih5 (k + 1) (pu R15 5 (pu (R15 5) p (x : Int))) _ _ (by omega) (by omega) (by first | exact hxx | exact hxx.tr (frR_567 hf39)) (by first | exact hrx | exact MRel_r hrx (frR_567 hf39)) (by simp only [so]; first | (rw [h26]; rfl) | (rw [h26, decide_eq_true (by omega)]; rfl) | (rw [h26, decide_eq_false (by omega)]; rfl)) (by omega))
        · refine zg_aload_n hX 0 rfl dX10_isSo_29 rfl 30 rfl ?_
          refine zg_aload_n hX 0 rfl dX10_isSo_30 rfl 31 rfl ?_
          refine mg_0_15 hX mw_656 dX10_isSo_31 34 rfl ?_
          refine zg_iconst hX dX10_isSo_34 35 rfl ?_
          refine zg_iload hX 4 rfl dX10_isSo_35 37 rfl ?_
          refine zg_imul hX dX10_isSo_37 38 rfl ?_
          refine ma_5 hX (2 * k) (eb (sE σ) k : Int) (by omega) (by omega) (hrx.2.2.1.2.2.2.2.2.2.2.2.1 k (by omega)) dX10_isSo_38 39 rfl ?_
          refine zg_callV (As := [.int (zI (eb (sE σ) k : Int))]) (rest := []) (k0 := 0) (ci := 9) hX (c_X10_lostIn l D cI q f (pu R15 5 (pu (R15 5) p (x : Int))) (sr σ) (pu (st σ) p x) (eb (sE σ) k) hρ (mR_of hrx.2.1 hrx.2.2.1) hnx htx (by omega)) mw_801 mw_803 mw_s18 mw_10 mw_804 sg_X10_lostIn (by decide) (by decide) (Nat.le_refl _) (Nat.le_refl _) rfl rfl rfl (Nat.le_of_ble_eq_true rfl) dX10_isSo_39 42 rfl (fun v39 W39 hp39 => ?_)
          obtain ⟨R39, rfl, rfl, hf39, -⟩ := hp39
          show G X 5 0 0 (mW cI q f R39) [(0, .ref (q 0)), (1, .int (zI (p : Int))), (2, .int (zI (x : Int))), (3, .int (zI (b2 (so (sr σ) (pu (st σ) p x) (eb (sE σ)) (el (sE σ)) k)))), (4, .int (zI (k : Int)))] 42 [.int (zI (ls (sr σ) (pu (st σ) p x) (eb (sE σ) k) : Int))]
          refine zg_aload_n hX 0 rfl dX10_isSo_42 rfl 43 rfl ?_
          refine mg_0_15 hX mw_656 dX10_isSo_43 46 rfl ?_
          refine zg_iconst hX dX10_isSo_46 47 rfl ?_
          refine zg_iload hX 4 rfl dX10_isSo_47 49 rfl ?_
          refine zg_imul hX dX10_isSo_49 50 rfl ?_
          refine zg_iconst hX dX10_isSo_50 51 rfl ?_
          refine zg_iadd hX dX10_isSo_51 52 rfl ?_
          refine ma_5 hX (2 * k + 1) (el (sE σ) k : Int) (by omega) (by omega) ((MRel_r hrx (frR_567 hf39)).2.2.1.2.2.2.2.2.2.2.2.2 k (by omega)) dX10_isSo_52 53 rfl ?_
          refine zg_icmp_ne hX (by omega) (by omega) dX10_isSo_53 60 (by decide) 56 rfl (fun h53 => ?_) (fun h53 => ?_)
          · refine zg_iconst hX dX10_isSo_60 61 rfl ?_
            refine zg_istore_n hX [(3, .int (zI 0)), (0, .ref (q 0)), (1, .int (zI (p : Int))), (2, .int (zI (x : Int))), (4, .int (zI (k : Int)))] dX10_isSo_61 rfl (by decide) rfl 62 rfl ?_
            refine zg_iinc hX [(4, .int (zI ((k : Int) + 1))), (3, .int (zI 0)), (0, .ref (q 0)), (1, .int (zI (p : Int))), (2, .int (zI (x : Int)))] 4 rfl dX10_isSo_62 (by decide) rfl 65 rfl ?_
            refine zg_goto hX dX10_isSo_65 5 (by decide) ?_
            exact zg_lv _ [2, 3, 4, 1, 0] rfl (ih5 (k + 1) R39 _ _ (by omega) (by omega) (by first | exact hxx | exact hxx.tr (frR_567 hf39)) (by first | exact hrx | exact MRel_r hrx (frR_567 hf39)) (by simp only [so]; first | (rw [h26]; rfl) | (rw [h26, decide_eq_true (by omega)]; rfl) | (rw [h26, decide_eq_false (by omega)]; rfl)) (by omega))
          · refine zg_iconst hX dX10_isSo_56 57 rfl ?_
            refine zg_goto hX dX10_isSo_57 61 (by decide) ?_
            refine zg_istore_n hX [(3, .int (zI 1)), (0, .ref (q 0)), (1, .int (zI (p : Int))), (2, .int (zI (x : Int))), (4, .int (zI (k : Int)))] dX10_isSo_61 rfl (by decide) rfl 62 rfl ?_
            refine zg_iinc hX [(4, .int (zI ((k : Int) + 1))), (3, .int (zI 1)), (0, .ref (q 0)), (1, .int (zI (p : Int))), (2, .int (zI (x : Int)))] 4 rfl dX10_isSo_62 (by decide) rfl 65 rfl ?_
            refine zg_goto hX dX10_isSo_65 5 (by decide) ?_
            exact zg_lv _ [2, 3, 4, 1, 0] rfl (ih5 (k + 1) R39 _ _ (by omega) (by omega) (by first | exact hxx | exact hxx.tr (frR_567 hf39)) (by first | exact hrx | exact MRel_r hrx (frR_567 hf39)) (by simp only [so]; first | (rw [h26]; rfl) | (rw [h26, decide_eq_true (by omega)]; rfl) | (rw [h26, decide_eq_false (by omega)]; rfl)) (by omega))
  exact zg_lv _ [2, 3, 4, 1, 0] rfl (L5 _ 0 r _ _ (Nat.lt_succ_self _) (by omega) (frR_rf r) (h) (rfl) (rfl))
-- Model.guessOf
set_option maxRecDepth 20000 in
theorem c_X10_guessOf (l : Launch) (D : va_G) (cI : ClassId) (q : Nat → Nat) (f : Nat → Int) (r : Nat → Nat → Int) (σ : Sg) (B : Nat) (p : Nat) (hσ : sOK σ B) (hB : B ≤ 100) (h : MRel f r σ) (hp : p < en (sE σ)) : Cn l D cI yX10_guessOf cX10_guessOf 4 (some .int) 8 0 0 [.ref (q 0), .int (zI (p : Int))] (mW cI q f r) (pR (mW cI q f) (fun v r1 => v = some (.int (zI (gss σ p))) ∧ frR r r1)) := by
  refine Cn.of [(0, .ref (q 0)), (1, .int (zI (p : Int)))] (by decide +kernel) (Nat.le_of_ble_eq_true rfl) rfl (fun X hX hR => ?_)
  have hsl := hσ.1
  have hg6 := hσ.2.1
  have hP := hσ.2.2.1
  have hE := hσ.2.2.2.1
  have hpb6 := hP.1
  have hpL9 := hP.2.1
  have hn4 := hE.1
  have hT6 := hE.2.2.2.2.1
  have hep := hE.2.2.2.2.2.2.2
  have hbk := hE.2.2.2.2.2.2.1
  have hs1 := hσ.2.2.2.2.2.1
  have hs2 := hσ.2.2.2.2.2.2.1
  have hs3 := hσ.2.2.2.2.2.2.2.1
  have hbd := hσ.2.2.2.2.2.2.2.2.1
  have hρ : RuOK (sr σ) := rho_OK hP hE
  have ht : tk (sr σ) (st σ) := rho_tk hE
  have hrb : rb (sr σ) = pb (sP σ) := rfl
  have hrn : rn (sr σ) = en (sE σ) := rfl
  have hrl : rl (sr σ) = pL (sP σ) := rfl
  have hm : mR f r (sr σ) := mR_of h.2.1 h.2.2.1
  refine zg_iconst hX dX10_guessOf_0 1 rfl ?_
  refine zg_istore_n hX [(2, .int (zI 0)), (0, .ref (q 0)), (1, .int (zI (p : Int)))] dX10_guessOf_1 rfl (by decide) rfl 2 rfl ?_
  refine zg_iconst hX dX10_guessOf_2 3 rfl ?_
  refine zg_istore_n hX [(3, .int (zI 0)), (2, .int (zI 0)), (0, .ref (q 0)), (1, .int (zI (p : Int)))] dX10_guessOf_3 rfl (by decide) rfl 4 rfl ?_
  have L4 : ∀ (fuel : Nat) (x : Nat) (R1 : Nat → Nat → Int) (x4_2 : Int) (x4_3 : Int), (10 - x < fuel) → (x ≤ 10) → (frR r R1) → (MRel f R1 σ) → x4_2 = ((mk (gs σ p) x : Nat) : Int) → x4_3 = (x : Int) → G X 4 0 0 (mW cI q f R1) [(0, .ref (q 0)), (1, .int (zI (p : Int))), (2, .int (zI x4_2)), (3, .int (zI x4_3))] 4 [] := by
    intro fuel
    induction fuel with
    | zero =>
      intro x R1 x4_2 x4_3 hm4
      exact absurd hm4 (Nat.not_lt_zero _)
    | succ fuel ih4 =>
      intro x R1 x4_2 x4_3 hm4 hxx hx1 hr1 ex4_2 ex4_3
      subst ex4_2
      subst ex4_3
      refine zg_iload_n hX 3 rfl dX10_guessOf_4 rfl 5 rfl ?_
      refine zg_bipush hX dX10_guessOf_5 7 rfl (by decide) ?_
      refine zg_icmp_ge hX (by omega) (by omega) dX10_guessOf_7 35 (by decide) 10 rfl (fun h7 => ?_) (fun h7 => ?_)
      · refine zg_iload_n hX 2 rfl dX10_guessOf_35 rfl 36 rfl ?_
        exact zg_iret hX hR (Nat.le_refl _) (Nat.le_refl _) rfl dX10_guessOf_36 (⟨R1, rfl, by rw [show x = 10 by omega]; rfl, hx1⟩)
      · refine zg_iload_n hX 2 rfl dX10_guessOf_10 rfl 11 rfl ?_
        refine zg_aload_n hX 0 rfl dX10_guessOf_11 rfl 12 rfl ?_
        refine zg_iload_n hX 1 rfl dX10_guessOf_12 rfl 13 rfl ?_
        refine zg_iload_n hX 3 rfl dX10_guessOf_13 rfl 14 rfl ?_
        refine zg_callV (As := [.int (zI (p : Int)), .int (zI (x : Int))]) (rest := [.int (zI ((mk (gs σ p) x : Nat) : Int))]) (k0 := 0) (ci := 9) hX (c_X10_isSo l D cI q f R1 σ B p x hσ hB hr1 hp (by omega)) mw_930 mw_932 mw_s37 mw_10 mw_933 sg_X10_isSo (by decide) (by decide) (Nat.le_refl _) (Nat.le_refl _) rfl rfl rfl (Nat.le_of_ble_eq_true rfl) dX10_guessOf_14 17 rfl (fun v14 W14 hp14 => ?_)
        obtain ⟨R14, rfl, rfl, hf14⟩ := hp14
        show G X 4 0 0 (mW cI q f R14) [(0, .ref (q 0)), (1, .int (zI (p : Int))), (2, .int (zI ((mk (gs σ p) x : Nat) : Int))), (3, .int (zI (x : Int)))] 17 [.int (zI (b2 (gs σ p x))), .int (zI ((mk (gs σ p) x : Nat) : Int))]
        have J27 : ∀ xj : Int, xj = (if gs σ p x then ((2 ^ x : Nat) : Int) else 0) → G X 4 0 0 (mW cI q f R14) [(0, .ref (q 0)), (1, .int (zI (p : Int))), (2, .int (zI ((mk (gs σ p) x : Nat) : Int))), (3, .int (zI (x : Int)))] 27 [.int (zI xj), .int (zI ((mk (gs σ p) x : Nat) : Int))] := by
          intro xj hx27
          subst hx27
          refine zg_ior hX ((mk (gs σ p) (x + 1) : Nat) : Int) (by
            cases hq : gs σ p x
            · rw [mk_skip hq, show (zI (if (false = true) then ((2 ^ x : Nat) : Int) else 0)) = 0 from rfl]; apply b_ext; intro j hj; rw [b_or, b_0, Bool.or_false]
            · rw [if_pos rfl]; exact zb_top (by omega) hq) dX10_guessOf_27 28 rfl ?_
          refine zg_istore_n hX [(2, .int (zI ((mk (gs σ p) (x + 1) : Nat) : Int))), (0, .ref (q 0)), (1, .int (zI (p : Int))), (3, .int (zI (x : Int)))] dX10_guessOf_28 rfl (by decide) rfl 29 rfl ?_
          refine zg_iinc hX [(3, .int (zI ((x : Int) + 1))), (2, .int (zI ((mk (gs σ p) (x + 1) : Nat) : Int))), (0, .ref (q 0)), (1, .int (zI (p : Int)))] 3 rfl dX10_guessOf_29 (by decide) rfl 32 rfl ?_
          refine zg_goto hX dX10_guessOf_32 4 (by decide) ?_
          exact zg_lv _ [2, 3, 1, 0] rfl (ih4 (x + 1) R14 _ _ (by omega) (by omega) (hx1.tr hf14) (MRel_r hr1 hf14) (rfl) (by omega))
        refine zg_ifb_eq hX dX10_guessOf_17 26 (by decide) 20 rfl (fun h17 => ?_) (fun h17 => ?_)
        · refine zg_iconst hX dX10_guessOf_26 27 rfl ?_
          exact J27 _ (by simp [h17])
        · refine zg_iconst hX dX10_guessOf_20 21 rfl ?_
          refine zg_iload_n hX 3 rfl dX10_guessOf_21 rfl 22 rfl ?_
          refine zg_ishl hX ((2 ^ x : Nat) : Int) (zb_shl1 (by omega)) dX10_guessOf_22 23 rfl ?_
          refine zg_goto hX dX10_guessOf_23 27 (by decide) ?_
          exact J27 _ (by simp [h17])
  exact zg_lv _ [2, 3, 1, 0] rfl (L4 _ 0 r _ _ (Nat.lt_succ_self _) (by omega) (frR_rf r) (h) (rfl) (rfl))
-- Model.guess
set_option maxRecDepth 20000 in
theorem c_X10_guess (l : Launch) (D : va_G) (cI : ClassId) (q : Nat → Nat) (f : Nat → Int) (r : Nat → Nat → Int) (σ : Sg) (B : Nat) (a : Int) (hσ : sOK σ B) (hB : B ≤ 100) (h : MRel f r σ) (ha : -2147483648 ≤ a ∧ a < 2147483648) : Cn l D cI yX10_guess cX10_guess 2 (some .int) 9 0 0 [.ref (q 0), .int (zI a)] (mW cI q f r) (qM cI q (o_guess σ a)) := by
  refine Cn.of [(0, .ref (q 0)), (1, .int (zI a))] (by decide +kernel) (Nat.le_of_ble_eq_true rfl) rfl (fun X hX hR => ?_)
  have hsl := hσ.1
  have hg6 := hσ.2.1
  have hP := hσ.2.2.1
  have hE := hσ.2.2.2.1
  have hpb6 := hP.1
  have hpL9 := hP.2.1
  have hn4 := hE.1
  have hT6 := hE.2.2.2.2.1
  have hep := hE.2.2.2.2.2.2.2
  have hbk := hE.2.2.2.2.2.2.1
  have hs1 := hσ.2.2.2.2.2.1
  have hs2 := hσ.2.2.2.2.2.2.1
  have hs3 := hσ.2.2.2.2.2.2.2.1
  have hbd := hσ.2.2.2.2.2.2.2.2.1
  have hρ : RuOK (sr σ) := rho_OK hP hE
  have ht : tk (sr σ) (st σ) := rho_tk hE
  have hrb : rb (sr σ) = pb (sP σ) := rfl
  have hrn : rn (sr σ) = en (sE σ) := rfl
  have hrl : rl (sr σ) = pL (sP σ) := rfl
  have hm : mR f r (sr σ) := mR_of h.2.1 h.2.2.1
  refine zg_aload_n hX 0 rfl dX10_guess_0 rfl 1 rfl ?_
  refine zg_iload_n hX 1 rfl dX10_guess_1 rfl 2 rfl ?_
  refine zg_callVi (As := [.int (zI a)]) (rest := []) (k0 := 0) (ci := 9) hX (c_X10_isPlayer l D cI q f r (sr σ) a hρ hm ha) mw_821 mw_823 mw_s23 mw_10 mw_824 sg_X10_isPlayer (by decide) (by decide) (Nat.le_refl _) (Nat.le_refl _) rfl rfl rfl (Nat.le_of_ble_eq_true rfl) dX10_guess_2 5 rfl ?_
  refine zg_ifb_eq hX dX10_guess_5 16 (by decide) 8 rfl (fun h5 => ?_) (fun h5 => ?_)
  · have h5a := of_decide_eq_false h5
    refine zg_bipush hX dX10_guess_16 18 rfl (by decide) ?_
    exact zg_iret hX hR (Nat.le_refl _) (Nat.le_refl _) rfl dX10_guess_18 (by first | exact qM_ret (by unfold o_guess; rw [if_neg (by omega)]) h | exact qM_ret (by unfold o_guess; rw [if_pos (by omega)]) (MRel_r h hf10))
  · have h5a := of_decide_eq_true h5
    have el8_1 : (a : Int) = (a.toNat : Int) := by omega
    refine zg_to (lv2 := [(0, .ref (q 0)), (1, .int (zI (a.toNat : Int)))]) (ws2 := (mW cI q f r)) (st2 := []) ?_ rfl (by rw [← el8_1]) rfl
    refine zg_aload_n hX 0 rfl dX10_guess_8 rfl 9 rfl ?_
    refine zg_iload_n hX 1 rfl dX10_guess_9 rfl 10 rfl ?_
    refine zg_callV (As := [.int (zI (a.toNat : Int))]) (rest := []) (k0 := 0) (ci := 9) hX (c_X10_guessOf l D cI q f r σ B a.toNat hσ hB h (by omega)) mw_926 mw_928 mw_s36 mw_10 mw_929 sg_X10_guessOf (by decide) (by decide) (Nat.le_refl _) (Nat.le_refl _) rfl rfl rfl (Nat.le_of_ble_eq_true rfl) dX10_guess_10 13 rfl (fun v10 W10 hp10 => ?_)
    obtain ⟨R10, rfl, rfl, hf10⟩ := hp10
    show G X 2 0 0 (mW cI q f R10) [(0, .ref (q 0)), (1, .int (zI (a.toNat : Int)))] 13 [.int (zI (gss σ a.toNat))]
    refine zg_goto hX dX10_guess_13 18 (by decide) ?_
    exact zg_iret hX hR (Nat.le_refl _) (Nat.le_refl _) rfl dX10_guess_18 (by first | exact qM_ret (by unfold o_guess; rw [if_neg (by omega)]) h | exact qM_ret (by unfold o_guess; rw [if_pos (by omega)]) (MRel_r h hf10))
-- Model.listenOf
set_option maxRecDepth 20000 in
theorem c_X10_listenOf (l : Launch) (D : va_G) (cI : ClassId) (q : Nat → Nat) (f : Nat → Int) (r : Nat → Nat → Int) (σ : Sg) (B : Nat) (p : Nat) (hσ : sOK σ B) (hB : B ≤ 100) (h : MRel f r σ) (hp : p < en (sE σ)) : Cn l D cI yX10_listenOf cX10_listenOf 8 (some .int) 9 0 0 [.ref (q 0), .int (zI (p : Int))] (mW cI q f r) (pR (mW cI q f) (fun v r1 => v = some (.int (zI (lis σ p))) ∧ frR r r1)) := by
  refine Cn.of [(0, .ref (q 0)), (1, .int (zI (p : Int)))] (by decide +kernel) (Nat.le_of_ble_eq_true rfl) rfl (fun X hX hR => ?_)
  have hsl := hσ.1
  have hg6 := hσ.2.1
  have hP := hσ.2.2.1
  have hE := hσ.2.2.2.1
  have hpb6 := hP.1
  have hpL9 := hP.2.1
  have hn4 := hE.1
  have hT6 := hE.2.2.2.2.1
  have hep := hE.2.2.2.2.2.2.2
  have hbk := hE.2.2.2.2.2.2.1
  have hs1 := hσ.2.2.2.2.2.1
  have hs2 := hσ.2.2.2.2.2.2.1
  have hs3 := hσ.2.2.2.2.2.2.2.1
  have hbd := hσ.2.2.2.2.2.2.2.2.1
  have hρ : RuOK (sr σ) := rho_OK hP hE
  have ht : tk (sr σ) (st σ) := rho_tk hE
  have hrb : rb (sr σ) = pb (sP σ) := rfl
  have hrn : rn (sr σ) = en (sE σ) := rfl
  have hrl : rl (sr σ) = pL (sP σ) := rfl
  have hm : mR f r (sr σ) := mR_of h.2.1 h.2.2.1
  refine zg_aload_n hX 0 rfl dX10_listenOf_0 rfl 1 rfl ?_
  refine zg_iload_n hX 1 rfl dX10_listenOf_1 rfl 2 rfl ?_
  refine zg_callV (As := [.int (zI (p : Int))]) (rest := []) (k0 := 0) (ci := 9) hX (c_X10_guessOf l D cI q f r σ B p hσ hB h hp) mw_926 mw_928 mw_s36 mw_10 mw_929 sg_X10_guessOf (by decide) (by decide) (Nat.le_refl _) (Nat.le_refl _) rfl rfl rfl (Nat.le_of_ble_eq_true rfl) dX10_listenOf_2 5 rfl (fun v2 W2 hp2 => ?_)
  obtain ⟨R2, rfl, rfl, hf2⟩ := hp2
  show G X 8 0 0 (mW cI q f R2) [(0, .ref (q 0)), (1, .int (zI (p : Int)))] 5 [.int (zI (gss σ p))]
  have hgr := gss_rng σ p
  refine zg_istore_n hX [(2, .int (zI (gss σ p))), (0, .ref (q 0)), (1, .int (zI (p : Int)))] dX10_listenOf_5 rfl (by decide) rfl 6 rfl ?_
  refine zg_iconst hX dX10_listenOf_6 7 rfl ?_
  refine zg_istore_n hX [(3, .int (zI (-1))), (2, .int (zI (gss σ p))), (0, .ref (q 0)), (1, .int (zI (p : Int)))] dX10_listenOf_7 rfl (by decide) rfl 8 rfl ?_
  refine zg_bipush hX dX10_listenOf_8 10 rfl (by decide) ?_
  refine zg_istore hX [(4, .int (zI 11)), (3, .int (zI (-1))), (2, .int (zI (gss σ p))), (0, .ref (q 0)), (1, .int (zI (p : Int)))] dX10_listenOf_10 (by decide) rfl 12 rfl ?_
  refine zg_iconst hX dX10_listenOf_12 13 rfl ?_
  refine zg_istore hX [(5, .int (zI 0)), (4, .int (zI 11)), (3, .int (zI (-1))), (2, .int (zI (gss σ p))), (0, .ref (q 0)), (1, .int (zI (p : Int)))] dX10_listenOf_13 (by decide) rfl 15 rfl ?_
  have L15 : ∀ (fuel : Nat) (b : Nat) (R3 : Nat → Nat → Int) (x15_3 : Int) (x15_4 : Int) (x15_5 : Int), (pb (sP σ) - b < fuel) → (b ≤ pb (sP σ)) → (frR r R3) → (MRel f R3 σ) → (mk (gs σ p) 10 = 0 → b = 0) → x15_3 = ((bb (wo σ p) b).1) → x15_4 = ((bb (wo σ p) b).2 : Int) → x15_5 = (b : Int) → G X 8 0 0 (mW cI q f R3) [(0, .ref (q 0)), (1, .int (zI (p : Int))), (2, .int (zI (gss σ p))), (3, .int (zI x15_3)), (4, .int (zI x15_4)), (5, .int (zI x15_5))] 15 [] := by
    intro fuel
    induction fuel with
    | zero =>
      intro b R3 x15_3 x15_4 x15_5 hm15
      exact absurd hm15 (Nat.not_lt_zero _)
    | succ fuel ih15 =>
      intro b R3 x15_3 x15_4 x15_5 hm15 hb hx3 hr3 hb0 ex15_3 ex15_4 ex15_5
      subst ex15_3
      subst ex15_4
      subst ex15_5
      refine zg_iload hX 5 rfl dX10_listenOf_15 17 rfl ?_
      refine zg_aload_n hX 0 rfl dX10_listenOf_17 rfl 18 rfl ?_
      refine mg_0_6 hX mw_647 (pb (sP σ) : Int) h.2.1.1 dX10_listenOf_18 21 rfl ?_
      refine zg_icmp_ge hX (by omega) (by omega) dX10_listenOf_21 184 (by decide) 24 rfl (fun h21 => ?_) (fun h21 => ?_)
      · refine zg_iload_n hX 3 rfl dX10_listenOf_184 rfl 185 rfl ?_
        exact zg_iret hX hR (Nat.le_refl _) (Nat.le_refl _) rfl dX10_listenOf_185 (⟨R3, rfl, (lis_end hb0 (fun hq => by first | exact absurd (by assumption) hq | (unfold gss at *; omega))), hx3⟩)
      · refine zg_iload_n hX 2 rfl dX10_listenOf_24 rfl 25 rfl ?_
        refine zg_if_eq hX (by omega) dX10_listenOf_25 184 (by decide) 28 rfl (fun h25 => ?_) (fun h25 => ?_)
        · have hlis : lis σ p = -1 := by unfold lis; unfold gss at h25; rw [if_pos (by omega)]
          have hbb0 : b = 0 := hb0 (by unfold gss at h25; omega)
          refine zg_iload_n hX 3 rfl dX10_listenOf_184 rfl 185 rfl ?_
          exact zg_iret hX hR (Nat.le_refl _) (Nat.le_refl _) rfl dX10_listenOf_185 (⟨R3, rfl, (lis_end hb0 (fun hq => by first | exact absurd (by assumption) hq | (unfold gss at *; omega))), hx3⟩)
        · have hg0 : ¬ mk (gs σ p) 10 = 0 := by unfold gss at h25; omega
          refine zg_iconst hX dX10_listenOf_28 29 rfl ?_
          refine zg_istore hX [(6, .int (zI 0)), (0, .ref (q 0)), (1, .int (zI (p : Int))), (2, .int (zI (gss σ p))), (3, .int (zI ((bb (wo σ p) b).1))), (4, .int (zI ((bb (wo σ p) b).2 : Int))), (5, .int (zI (b : Int)))] dX10_listenOf_29 (by decide) rfl 31 rfl ?_
          have L31 : ∀ (fuel : Nat) (k1 : Nat) (R4z : Nat → Nat → Int) (x31_6 : Int), (5 - k1 < fuel) → (k1 ≤ 5) → (lay 10 k1 (fun _ => 0) R3 R4z) → x31_6 = (k1 : Int) → G X 8 0 0 (mW cI q f R4z) [(0, .ref (q 0)), (1, .int (zI (p : Int))), (2, .int (zI (gss σ p))), (3, .int (zI ((bb (wo σ p) b).1))), (4, .int (zI ((bb (wo σ p) b).2 : Int))), (5, .int (zI (b : Int))), (6, .int (zI x31_6))] 31 [] := by
            intro fuel
            induction fuel with
            | zero =>
              intro k1 R4z x31_6 hm31
              exact absurd hm31 (Nat.not_lt_zero _)
            | succ fuel ih31 =>
              intro k1 R4z x31_6 hm31 hk1 hz4 ex31_6
              subst ex31_6
              refine zg_iload hX 6 rfl dX10_listenOf_31 33 rfl ?_
              refine zg_iconst hX dX10_listenOf_33 34 rfl ?_
              refine zg_icmp_ge hX (by omega) (by omega) dX10_listenOf_34 51 (by decide) 37 rfl (fun h34 => ?_) (fun h34 => ?_)
              · refine zg_iconst hX dX10_listenOf_51 52 rfl ?_
                refine zg_istore hX [(6, .int (zI 0)), (0, .ref (q 0)), (1, .int (zI (p : Int))), (2, .int (zI (gss σ p))), (3, .int (zI ((bb (wo σ p) b).1))), (4, .int (zI ((bb (wo σ p) b).2 : Int))), (5, .int (zI (b : Int)))] dX10_listenOf_52 (by decide) rfl 54 rfl ?_
                have L54 : ∀ (fuel : Nat) (x : Nat) (R4 : Nat → Nat → Int) (x54_6 : Int), (10 - x < fuel) → (x ≤ 10) → (frR r R4) → (MRel f R4 σ) → (∀ v, v < 5 → R4 10 v = (cn (gs σ p) (fun x => ls (sr σ) (pu (st σ) p x) b) v x : Int)) → x54_6 = (x : Int) → G X 8 0 0 (mW cI q f R4) [(0, .ref (q 0)), (1, .int (zI (p : Int))), (2, .int (zI (gss σ p))), (3, .int (zI ((bb (wo σ p) b).1))), (4, .int (zI ((bb (wo σ p) b).2 : Int))), (5, .int (zI (b : Int))), (6, .int (zI x54_6))] 54 [] := by
                  intro fuel
                  induction fuel with
                  | zero =>
                    intro x R4 x54_6 hm54
                    exact absurd hm54 (Nat.not_lt_zero _)
                  | succ fuel ih54 =>
                    intro x R4 x54_6 hm54 hx hx4 hr4 h10 ex54_6
                    subst ex54_6
                    refine zg_iload hX 6 rfl dX10_listenOf_54 56 rfl ?_
                    refine zg_bipush hX dX10_listenOf_56 58 rfl (by decide) ?_
                    refine zg_icmp_ge hX (by omega) (by omega) dX10_listenOf_58 104 (by decide) 61 rfl (fun h58 => ?_) (fun h58 => ?_)
                    · refine zg_iconst hX dX10_listenOf_104 105 rfl ?_
                      refine zg_istore hX [(6, .int (zI 0)), (0, .ref (q 0)), (1, .int (zI (p : Int))), (2, .int (zI (gss σ p))), (3, .int (zI ((bb (wo σ p) b).1))), (4, .int (zI ((bb (wo σ p) b).2 : Int))), (5, .int (zI (b : Int)))] dX10_listenOf_105 (by decide) rfl 107 rfl ?_
                      refine zg_iconst hX dX10_listenOf_107 108 rfl ?_
                      refine zg_istore hX [(7, .int (zI 0)), (6, .int (zI 0)), (0, .ref (q 0)), (1, .int (zI (p : Int))), (2, .int (zI (gss σ p))), (3, .int (zI ((bb (wo σ p) b).1))), (4, .int (zI ((bb (wo σ p) b).2 : Int))), (5, .int (zI (b : Int)))] dX10_listenOf_108 (by decide) rfl 110 rfl ?_
                      have h10b : ∀ v, v < 5 → R4 10 v = (cn (gs σ p) (fun x => ls (sr σ) (pu (st σ) p x) b) v 10 : Int) := fun v hv => by rw [h10 v hv, show x = 10 by omega]
                      have hx5 := hx4
                      have L110 : ∀ (fuel : Nat) (k2 : Nat) (x110_6 : Int) (x110_7 : Int), (5 - k2 < fuel) → (k2 ≤ 5) → x110_6 = (mx (fun v => cn (gs σ p) (fun x => ls (sr σ) (pu (st σ) p x) b) v 10) k2 : Int) → x110_7 = (k2 : Int) → G X 8 0 0 (mW cI q f R4) [(0, .ref (q 0)), (1, .int (zI (p : Int))), (2, .int (zI (gss σ p))), (3, .int (zI ((bb (wo σ p) b).1))), (4, .int (zI ((bb (wo σ p) b).2 : Int))), (5, .int (zI (b : Int))), (6, .int (zI x110_6)), (7, .int (zI x110_7))] 110 [] := by
                        intro fuel
                        induction fuel with
                        | zero =>
                          intro k2 x110_6 x110_7 hm110
                          exact absurd hm110 (Nat.not_lt_zero _)
                        | succ fuel ih110 =>
                          intro k2 x110_6 x110_7 hm110 hk2 ex110_6 ex110_7
                          subst ex110_6
                          subst ex110_7
                          refine zg_iload hX 7 rfl dX10_listenOf_110 112 rfl ?_
                          refine zg_iconst hX dX10_listenOf_112 113 rfl ?_
                          refine zg_icmp_ge hX (by omega) (by omega) dX10_listenOf_113 148 (by decide) 116 rfl (fun h113 => ?_) (fun h113 => ?_)
                          · have el148_6 : ((mx (fun v => cn (gs σ p) (fun x => ls (sr σ) (pu (st σ) p x) b) v 10) k2 : Int) : Int) = (wo σ p b : Int) := by rw [show k2 = 5 by omega]; rfl
                            refine zg_to (lv2 := [(0, .ref (q 0)), (1, .int (zI (p : Int))), (2, .int (zI (gss σ p))), (3, .int (zI ((bb (wo σ p) b).1))), (4, .int (zI ((bb (wo σ p) b).2 : Int))), (5, .int (zI (b : Int))), (6, .int (zI (wo σ p b : Int))), (7, .int (zI (k2 : Int)))]) (ws2 := (mW cI q f R4)) (st2 := []) ?_ rfl (by rw [← el148_6]) rfl
                            have hwb : wo σ p b ≤ 10 := mx_bd (fun v => cn_le (gs σ p) (fun x => ls (sr σ) (pu (st σ) p x) b) v 10) 5
                            have hbl : (bb (wo σ p) b).2 ≤ 11 := bb_le _ (fun b => mx_bd (fun v => cn_le (gs σ p) (fun x => ls (sr σ) (pu (st σ) p x) b) v 10) 5) b
                            refine zg_iload hX 6 rfl dX10_listenOf_148 150 rfl ?_
                            refine zg_iload hX 4 rfl dX10_listenOf_150 152 rfl ?_
                            have J161 : ∀ xj : Int, xj = ((bb (wo σ p) (b + 1)).1) → G X 8 0 0 (mW cI q f R4) [(0, .ref (q 0)), (1, .int (zI (p : Int))), (2, .int (zI (gss σ p))), (3, .int (zI ((bb (wo σ p) b).1))), (4, .int (zI ((bb (wo σ p) b).2 : Int))), (5, .int (zI (b : Int))), (6, .int (zI (wo σ p b : Int))), (7, .int (zI (k2 : Int)))] 161 [.int (zI xj)] := by
                              intro xj hx161
                              subst hx161
                              refine zg_istore_n hX [(3, .int (zI ((bb (wo σ p) (b + 1)).1))), (0, .ref (q 0)), (1, .int (zI (p : Int))), (2, .int (zI (gss σ p))), (4, .int (zI ((bb (wo σ p) b).2 : Int))), (5, .int (zI (b : Int))), (6, .int (zI (wo σ p b : Int))), (7, .int (zI (k2 : Int)))] dX10_listenOf_161 rfl (by decide) rfl 162 rfl ?_
                              refine zg_iload hX 6 rfl dX10_listenOf_162 164 rfl ?_
                              refine zg_iload hX 4 rfl dX10_listenOf_164 166 rfl ?_
                              have J176 : ∀ xj : Int, xj = ((bb (wo σ p) (b + 1)).2 : Int) → G X 8 0 0 (mW cI q f R4) [(3, .int (zI ((bb (wo σ p) (b + 1)).1))), (0, .ref (q 0)), (1, .int (zI (p : Int))), (2, .int (zI (gss σ p))), (4, .int (zI ((bb (wo σ p) b).2 : Int))), (5, .int (zI (b : Int))), (6, .int (zI (wo σ p b : Int))), (7, .int (zI (k2 : Int)))] 176 [.int (zI xj)] := by
                                intro xj hx176
                                subst hx176
                                refine zg_istore hX [(4, .int (zI ((bb (wo σ p) (b + 1)).2 : Int))), (3, .int (zI ((bb (wo σ p) (b + 1)).1))), (0, .ref (q 0)), (1, .int (zI (p : Int))), (2, .int (zI (gss σ p))), (5, .int (zI (b : Int))), (6, .int (zI (wo σ p b : Int))), (7, .int (zI (k2 : Int)))] dX10_listenOf_176 (by decide) rfl 178 rfl ?_
                                refine zg_iinc hX [(5, .int (zI ((b : Int) + 1))), (4, .int (zI ((bb (wo σ p) (b + 1)).2 : Int))), (3, .int (zI ((bb (wo σ p) (b + 1)).1))), (0, .ref (q 0)), (1, .int (zI (p : Int))), (2, .int (zI (gss σ p))), (6, .int (zI (wo σ p b : Int))), (7, .int (zI (k2 : Int)))] 5 rfl dX10_listenOf_178 (by decide) rfl 181 rfl ?_
                                refine zg_goto hX dX10_listenOf_181 15 (by decide) ?_
                                exact zg_lv _ [3, 4, 5, 2, 1, 0] rfl (ih15 (b + 1) R4 _ _ _ (by omega) (by omega) (hx5) (MRel_r h hx5) (fun hq => absurd hq hg0) (rfl) (rfl) (by omega))
                              refine zg_icmp_ge hX (by omega) (by omega) dX10_listenOf_166 174 (by decide) 169 rfl (fun h166 => ?_) (fun h166 => ?_)
                              · refine zg_iload hX 4 rfl dX10_listenOf_174 176 rfl ?_
                                exact J176 _ (by simp only [bb]; first | (rw [if_pos (by omega)]; done) | (rw [if_neg (by omega)]; done))
                              · refine zg_iload hX 6 rfl dX10_listenOf_169 171 rfl ?_
                                refine zg_goto hX dX10_listenOf_171 176 (by decide) ?_
                                exact J176 _ (by simp only [bb]; first | (rw [if_pos (by omega)]; done) | (rw [if_neg (by omega)]; done))
                            refine zg_icmp_ge hX (by omega) (by omega) dX10_listenOf_152 160 (by decide) 155 rfl (fun h152 => ?_) (fun h152 => ?_)
                            · refine zg_iload_n hX 3 rfl dX10_listenOf_160 rfl 161 rfl ?_
                              exact J161 _ (by simp only [bb]; first | (rw [if_pos (by omega)]; done) | (rw [if_neg (by omega)]; done))
                            · refine zg_iload hX 5 rfl dX10_listenOf_155 157 rfl ?_
                              refine zg_goto hX dX10_listenOf_157 161 (by decide) ?_
                              exact J161 _ (by simp only [bb]; first | (rw [if_pos (by omega)]; done) | (rw [if_neg (by omega)]; done))
                          · have hcb := cn_le (gs σ p) (fun x => ls (sr σ) (pu (st σ) p x) b) k2 10
                            have hmb := mx_bd (fun v => cn_le (gs σ p) (fun x => ls (sr σ) (pu (st σ) p x) b) v 10) k2
                            refine zg_aload_n hX 0 rfl dX10_listenOf_116 rfl 117 rfl ?_
                            refine mg_0_23 hX mw_664 dX10_listenOf_117 120 rfl ?_
                            refine zg_iload hX 7 rfl dX10_listenOf_120 122 rfl ?_
                            refine ma_11 hX k2 (cn (gs σ p) (fun x => ls (sr σ) (pu (st σ) p x) b) k2 10 : Int) (by omega) (by omega) (h10b _ (by omega)) dX10_listenOf_122 123 rfl ?_
                            refine zg_iload hX 6 rfl dX10_listenOf_123 125 rfl ?_
                            have J140 : ∀ xj : Int, xj = (mx (fun v => cn (gs σ p) (fun x => ls (sr σ) (pu (st σ) p x) b) v 10) (k2 + 1) : Int) → G X 8 0 0 (mW cI q f R4) [(0, .ref (q 0)), (1, .int (zI (p : Int))), (2, .int (zI (gss σ p))), (3, .int (zI ((bb (wo σ p) b).1))), (4, .int (zI ((bb (wo σ p) b).2 : Int))), (5, .int (zI (b : Int))), (6, .int (zI (mx (fun v => cn (gs σ p) (fun x => ls (sr σ) (pu (st σ) p x) b) v 10) k2 : Int))), (7, .int (zI (k2 : Int)))] 140 [.int (zI xj)] := by
                              intro xj hx140
                              subst hx140
                              refine zg_istore hX [(6, .int (zI (mx (fun v => cn (gs σ p) (fun x => ls (sr σ) (pu (st σ) p x) b) v 10) (k2 + 1) : Int))), (0, .ref (q 0)), (1, .int (zI (p : Int))), (2, .int (zI (gss σ p))), (3, .int (zI ((bb (wo σ p) b).1))), (4, .int (zI ((bb (wo σ p) b).2 : Int))), (5, .int (zI (b : Int))), (7, .int (zI (k2 : Int)))] dX10_listenOf_140 (by decide) rfl 142 rfl ?_
                              refine zg_iinc hX [(7, .int (zI ((k2 : Int) + 1))), (6, .int (zI (mx (fun v => cn (gs σ p) (fun x => ls (sr σ) (pu (st σ) p x) b) v 10) (k2 + 1) : Int))), (0, .ref (q 0)), (1, .int (zI (p : Int))), (2, .int (zI (gss σ p))), (3, .int (zI ((bb (wo σ p) b).1))), (4, .int (zI ((bb (wo σ p) b).2 : Int))), (5, .int (zI (b : Int)))] 7 rfl dX10_listenOf_142 (by decide) rfl 145 rfl ?_
                              refine zg_goto hX dX10_listenOf_145 110 (by decide) ?_
                              exact zg_lv _ [2, 3, 4, 5, 6, 7, 1, 0] rfl (ih110 (k2 + 1) _ _ (by omega) (by omega) (rfl) (by omega))
                            refine zg_icmp_le hX (by omega) (by omega) dX10_listenOf_125 138 (by decide) 128 rfl (fun h125 => ?_) (fun h125 => ?_)
                            · refine zg_iload hX 6 rfl dX10_listenOf_138 140 rfl ?_
                              exact J140 _ (by simp only [mx]; omega)
                            · refine zg_aload_n hX 0 rfl dX10_listenOf_128 rfl 129 rfl ?_
                              refine mg_0_23 hX mw_664 dX10_listenOf_129 132 rfl ?_
                              refine zg_iload hX 7 rfl dX10_listenOf_132 134 rfl ?_
                              refine ma_11 hX k2 (cn (gs σ p) (fun x => ls (sr σ) (pu (st σ) p x) b) k2 10 : Int) (by omega) (by omega) (h10b _ (by omega)) dX10_listenOf_134 135 rfl ?_
                              refine zg_goto hX dX10_listenOf_135 140 (by decide) ?_
                              exact J140 _ (by simp only [mx]; omega)
                      exact zg_lv _ [2, 3, 4, 5, 6, 7, 1, 0] rfl (L110 _ 0 _ _ (Nat.lt_succ_self _) (by omega) (rfl) (rfl))
                    · refine zg_iload_n hX 2 rfl dX10_listenOf_61 rfl 62 rfl ?_
                      refine zg_iload hX 6 rfl dX10_listenOf_62 64 rfl ?_
                      refine zg_ishr hX ((mk (gs σ p) 10 / 2 ^ x : Nat) : Int) (by unfold gss; exact zb_shr (by have := mk_rng (gs σ p) 10 (by omega); omega) (by omega)) dX10_listenOf_64 65 rfl ?_
                      refine zg_iconst hX dX10_listenOf_65 66 rfl ?_
                      refine zg_iand hX (b2 (gs σ p x)) (zb_bit (by omega)) dX10_listenOf_66 67 rfl ?_
                      refine zg_iconst hX dX10_listenOf_67 68 rfl ?_
                      refine zg_icb1_ne hX dX10_listenOf_68 98 (by decide) 71 rfl (fun h68 => ?_) (fun h68 => ?_)
                      · have hcn : ∀ v, cn (gs σ p) (fun x => ls (sr σ) (pu (st σ) p x) b) v (x + 1) = cn (gs σ p) (fun x => ls (sr σ) (pu (st σ) p x) b) v x := fun v => by simp only [cn]; rw [if_neg (by rw [h68]; simp)]; rfl
                        refine zg_iinc hX [(6, .int (zI ((x : Int) + 1))), (0, .ref (q 0)), (1, .int (zI (p : Int))), (2, .int (zI (gss σ p))), (3, .int (zI ((bb (wo σ p) b).1))), (4, .int (zI ((bb (wo σ p) b).2 : Int))), (5, .int (zI (b : Int)))] 6 rfl dX10_listenOf_98 (by decide) rfl 101 rfl ?_
                        refine zg_goto hX dX10_listenOf_101 54 (by decide) ?_
                        exact zg_lv _ [1, 2, 3, 4, 5, 6, 0] rfl (ih54 (x + 1) R4 _ (by omega) (by omega) (by first | exact hx4 | exact (hxx2.tr (frR_567 hf90)).pr 10 _ (by omega)) (by first | exact hr4 | exact MRel_r h ((hxx2.tr (frR_567 hf90)).pr 10 _ (by omega))) (by first | exact (fun v hv => by rw [hcn v]; exact h10 v hv) | exact (fun v hv => by
                              rw [pu_eq, pu_at]
                              simp only [cn]
                              by_cases hv2 : v = ls (sr σ) (pu (st σ) p x) b
                              · rw [if_pos hv2, if_pos ⟨h68, hv2.symm⟩, hv2]; rfl
                              · rw [if_neg hv2, if_neg (fun z => hv2 z.2.symm)]; exact h10k v hv)) (by omega))
                      · refine zg_aload_n hX 0 rfl dX10_listenOf_71 rfl 72 rfl ?_
                        refine zg_callV (As := []) (rest := []) (k0 := 0) (ci := 9) hX (c_X10_asItIs l D cI q f R4 (sr σ) hρ (mR_of hr4.2.1 hr4.2.2.1)) mw_797 mw_799 mw_s17 mw_10 mw_800 sg_X10_asItIs (by decide) (by decide) (Nat.le_refl _) (Nat.le_refl _) rfl rfl rfl (Nat.le_of_ble_eq_true rfl) dX10_listenOf_72 75 rfl (fun v72 W72 hp72 => ?_)
                        obtain ⟨R72, rfl, rfl, hl72⟩ := hp72
                        show G X 8 0 0 (mW cI q f R72) [(0, .ref (q 0)), (1, .int (zI (p : Int))), (2, .int (zI (gss σ p))), (3, .int (zI ((bb (wo σ p) b).1))), (4, .int (zI ((bb (wo σ p) b).2 : Int))), (5, .int (zI (b : Int))), (6, .int (zI (x : Int)))] 75 []
                        have hx72 : frR R4 R72 := frR_lay hl72 (by omega)
                        have hr72 : MRel f R72 σ := MRel_r hr4 hx72
                        have hn72 : ∀ p, p < rn (sr σ) → R72 5 p = (st σ p : Int) := fun p hp => (hl72.2 p hp).trans (hr4.2.2.1.2.2.2.2.2.1 p hp)
                        have hm72 : mR f R72 (sr σ) := mR_of hr72.2.1 hr72.2.2.1
                        refine zg_aload_n hX 0 rfl dX10_listenOf_75 rfl 76 rfl ?_
                        refine mg_0_16 hX mw_657 dX10_listenOf_76 79 rfl ?_
                        refine zg_iload_n hX 1 rfl dX10_listenOf_79 rfl 80 rfl ?_
                        refine zg_iload hX 6 rfl dX10_listenOf_80 82 rfl ?_
                        refine ms_6 hX p (by omega) (by omega) dX10_listenOf_82 83 rfl ?_
                        have hnx : ∀ j, j < rn (sr σ) → (pu R72 5 (pu (R72 5) p (x : Int))) 5 j = ((pu (st σ) p x j : Nat) : Int) := fun j hj => by
                          rw [pu_eq, pu_at, pu_at]; split
                          · rfl
                          · exact hn72 j hj
                        have hxx2 : frR r (pu R72 5 (pu (R72 5) p (x : Int))) := (hx4.tr hx72).pr 5 _ (by omega)
                        have hrx : MRel f (pu R72 5 (pu (R72 5) p (x : Int))) σ := MRel_r h hxx2
                        have htx : tk (sr σ) (pu (st σ) p x) := tk_pu ht hp (by omega)
                        have hls := ls_4 (pu (st σ) p x) hρ b
                        refine zg_aload_n hX 0 rfl dX10_listenOf_83 rfl 84 rfl ?_
                        refine mg_0_23 hX mw_664 dX10_listenOf_84 87 rfl ?_
                        refine zg_aload_n hX 0 rfl dX10_listenOf_87 rfl 88 rfl ?_
                        refine zg_iload hX 5 rfl dX10_listenOf_88 90 rfl ?_
                        refine zg_callV (As := [.int (zI (b : Int))]) (rest := [.ref (q 11)]) (k0 := 0) (ci := 9) hX (c_X10_lostIn l D cI q f (pu R72 5 (pu (R72 5) p (x : Int))) (sr σ) (pu (st σ) p x) b hρ (mR_of hrx.2.1 hrx.2.2.1) hnx htx (by omega)) mw_801 mw_803 mw_s18 mw_10 mw_804 sg_X10_lostIn (by decide) (by decide) (Nat.le_refl _) (Nat.le_refl _) rfl rfl rfl (Nat.le_of_ble_eq_true rfl) dX10_listenOf_90 93 rfl (fun v90 W90 hp90 => ?_)
                        obtain ⟨R90, rfl, rfl, hf90, -⟩ := hp90
                        show G X 8 0 0 (mW cI q f R90) [(0, .ref (q 0)), (1, .int (zI (p : Int))), (2, .int (zI (gss σ p))), (3, .int (zI ((bb (wo σ p) b).1))), (4, .int (zI ((bb (wo σ p) b).2 : Int))), (5, .int (zI (b : Int))), (6, .int (zI (x : Int)))] 93 [.int (zI (ls (sr σ) (pu (st σ) p x) b : Int)), .ref (q 11)]
                        have h10k : ∀ v, v < 5 → R90 10 v = (cn (gs σ p) (fun x => ls (sr σ) (pu (st σ) p x) b) v x : Int) := fun v hv => by
                          rw [hf90 10 (by decide) (by decide) (by decide), pu_ne _ _ (by decide), hl72.1 10 (by decide)]; exact h10 v hv
                        refine zg_dup2 hX rfl rfl dX10_listenOf_93 94 rfl ?_
                        refine ma_11 hX (ls (sr σ) (pu (st σ) p x) b) (cn (gs σ p) (fun x => ls (sr σ) (pu (st σ) p x) b) (ls (sr σ) (pu (st σ) p x) b) x : Int) (by omega) (by omega) (h10k _ (by omega)) dX10_listenOf_94 95 rfl ?_
                        refine zg_iconst hX dX10_listenOf_95 96 rfl ?_
                        refine zg_iadd hX dX10_listenOf_96 97 rfl ?_
                        refine ms_11 hX (ls (sr σ) (pu (st σ) p x) b) (by omega) (by omega) dX10_listenOf_97 98 rfl ?_
                        refine zg_iinc hX [(6, .int (zI ((x : Int) + 1))), (0, .ref (q 0)), (1, .int (zI (p : Int))), (2, .int (zI (gss σ p))), (3, .int (zI ((bb (wo σ p) b).1))), (4, .int (zI ((bb (wo σ p) b).2 : Int))), (5, .int (zI (b : Int)))] 6 rfl dX10_listenOf_98 (by decide) rfl 101 rfl ?_
                        refine zg_goto hX dX10_listenOf_101 54 (by decide) ?_
                        exact zg_lv _ [1, 2, 3, 4, 5, 6, 0] rfl (ih54 (x + 1) (pu R90 10 (pu (R90 10) (ls (sr σ) (pu (st σ) p x) b) ((cn (gs σ p) (fun x => ls (sr σ) (pu (st σ) p x) b) (ls (sr σ) (pu (st σ) p x) b) x : Int) + 1))) _ (by omega) (by omega) (by first | exact hx4 | exact (hxx2.tr (frR_567 hf90)).pr 10 _ (by omega)) (by first | exact hr4 | exact MRel_r h ((hxx2.tr (frR_567 hf90)).pr 10 _ (by omega))) (by first | exact (fun v hv => by rw [hcn v]; exact h10 v hv) | exact (fun v hv => by
                              rw [pu_eq, pu_at]
                              simp only [cn]
                              by_cases hv2 : v = ls (sr σ) (pu (st σ) p x) b
                              · rw [if_pos hv2, if_pos ⟨h68, hv2.symm⟩, hv2]; rfl
                              · rw [if_neg hv2, if_neg (fun z => hv2 z.2.symm)]; exact h10k v hv)) (by omega))
                exact zg_lv _ [1, 2, 3, 4, 5, 6, 0] rfl (L54 _ 0 R4z _ (Nat.lt_succ_self _) (by omega) (hx3.tr (frR_lay hz4 (by omega))) (MRel_r hr3 (frR_lay hz4 (by omega))) (fun v hv => hz4.2 v (by omega)) (rfl))
              · refine zg_aload_n hX 0 rfl dX10_listenOf_37 rfl 38 rfl ?_
                refine mg_0_23 hX mw_664 dX10_listenOf_38 41 rfl ?_
                refine zg_iload hX 6 rfl dX10_listenOf_41 43 rfl ?_
                refine zg_iconst hX dX10_listenOf_43 44 rfl ?_
                refine ms_11 hX k1 (by omega) (by omega) dX10_listenOf_44 45 rfl ?_
                refine zg_iinc hX [(6, .int (zI ((k1 : Int) + 1))), (0, .ref (q 0)), (1, .int (zI (p : Int))), (2, .int (zI (gss σ p))), (3, .int (zI ((bb (wo σ p) b).1))), (4, .int (zI ((bb (wo σ p) b).2 : Int))), (5, .int (zI (b : Int)))] 6 rfl dX10_listenOf_45 (by decide) rfl 48 rfl ?_
                refine zg_goto hX dX10_listenOf_48 31 (by decide) ?_
                exact zg_lv _ [1, 2, 3, 4, 5, 6, 0] rfl (ih31 (k1 + 1) (pu R4z 10 (pu (R4z 10) k1 0)) _ (by omega) (by omega) (lay_s hz4 _ rfl) (by omega))
          exact zg_lv _ [1, 2, 3, 4, 5, 6, 0] rfl (L31 _ 0 R3 _ (Nat.lt_succ_self _) (by omega) (lay_0 _ _ _) (rfl))
  exact zg_lv _ [4, 5, 3, 2, 1, 0] rfl (L15 _ 0 R2 _ _ _ (Nat.lt_succ_self _) (by omega) (hf2) (MRel_r h hf2) (fun _ => rfl) (rfl) (rfl) (rfl))
-- Model.listen
set_option maxRecDepth 20000 in
theorem c_X10_listen (l : Launch) (D : va_G) (cI : ClassId) (q : Nat → Nat) (f : Nat → Int) (r : Nat → Nat → Int) (σ : Sg) (B : Nat) (a : Int) (hσ : sOK σ B) (hB : B ≤ 100) (h : MRel f r σ) (ha : -2147483648 ≤ a ∧ a < 2147483648) : Cn l D cI yX10_listen cX10_listen 2 (some .int) 10 0 0 [.ref (q 0), .int (zI a)] (mW cI q f r) (qM cI q (o_listen σ a)) := by
  refine Cn.of [(0, .ref (q 0)), (1, .int (zI a))] (by decide +kernel) (Nat.le_of_ble_eq_true rfl) rfl (fun X hX hR => ?_)
  have hsl := hσ.1
  have hg6 := hσ.2.1
  have hP := hσ.2.2.1
  have hE := hσ.2.2.2.1
  have hpb6 := hP.1
  have hpL9 := hP.2.1
  have hn4 := hE.1
  have hT6 := hE.2.2.2.2.1
  have hep := hE.2.2.2.2.2.2.2
  have hbk := hE.2.2.2.2.2.2.1
  have hs1 := hσ.2.2.2.2.2.1
  have hs2 := hσ.2.2.2.2.2.2.1
  have hs3 := hσ.2.2.2.2.2.2.2.1
  have hbd := hσ.2.2.2.2.2.2.2.2.1
  have hρ : RuOK (sr σ) := rho_OK hP hE
  have ht : tk (sr σ) (st σ) := rho_tk hE
  have hrb : rb (sr σ) = pb (sP σ) := rfl
  have hrn : rn (sr σ) = en (sE σ) := rfl
  have hrl : rl (sr σ) = pL (sP σ) := rfl
  have hm : mR f r (sr σ) := mR_of h.2.1 h.2.2.1
  refine zg_aload_n hX 0 rfl dX10_listen_0 rfl 1 rfl ?_
  refine zg_iload_n hX 1 rfl dX10_listen_1 rfl 2 rfl ?_
  refine zg_callVi (As := [.int (zI a)]) (rest := []) (k0 := 0) (ci := 9) hX (c_X10_isPlayer l D cI q f r (sr σ) a hρ hm ha) mw_821 mw_823 mw_s23 mw_10 mw_824 sg_X10_isPlayer (by decide) (by decide) (Nat.le_refl _) (Nat.le_refl _) rfl rfl rfl (Nat.le_of_ble_eq_true rfl) dX10_listen_2 5 rfl ?_
  refine zg_ifb_eq hX dX10_listen_5 16 (by decide) 8 rfl (fun h5 => ?_) (fun h5 => ?_)
  · have h5a := of_decide_eq_false h5
    refine zg_bipush hX dX10_listen_16 18 rfl (by decide) ?_
    exact zg_iret hX hR (Nat.le_refl _) (Nat.le_refl _) rfl dX10_listen_18 (by first | exact qM_ret (by unfold o_listen; rw [if_neg (by omega)]) h | exact qM_ret (by unfold o_listen; rw [if_pos (by omega)]) (MRel_r h hf10))
  · have h5a := of_decide_eq_true h5
    have el8_1 : (a : Int) = (a.toNat : Int) := by omega
    refine zg_to (lv2 := [(0, .ref (q 0)), (1, .int (zI (a.toNat : Int)))]) (ws2 := (mW cI q f r)) (st2 := []) ?_ rfl (by rw [← el8_1]) rfl
    refine zg_aload_n hX 0 rfl dX10_listen_8 rfl 9 rfl ?_
    refine zg_iload_n hX 1 rfl dX10_listen_9 rfl 10 rfl ?_
    refine zg_callV (As := [.int (zI (a.toNat : Int))]) (rest := []) (k0 := 0) (ci := 9) hX (c_X10_listenOf l D cI q f r σ B a.toNat hσ hB h (by omega)) mw_938 mw_940 mw_s38 mw_10 mw_941 sg_X10_listenOf (by decide) (by decide) (Nat.le_refl _) (Nat.le_refl _) rfl rfl rfl (Nat.le_of_ble_eq_true rfl) dX10_listen_10 13 rfl (fun v10 W10 hp10 => ?_)
    obtain ⟨R10, rfl, rfl, hf10⟩ := hp10
    show G X 2 0 0 (mW cI q f R10) [(0, .ref (q 0)), (1, .int (zI (a.toNat : Int)))] 13 [.int (zI (lis σ a.toNat))]
    refine zg_goto hX dX10_listen_13 18 (by decide) ?_
    exact zg_iret hX hR (Nat.le_refl _) (Nat.le_refl _) rfl dX10_listen_18 (by first | exact qM_ret (by unfold o_listen; rw [if_neg (by omega)]) h | exact qM_ret (by unfold o_listen; rw [if_pos (by omega)]) (MRel_r h hf10))
