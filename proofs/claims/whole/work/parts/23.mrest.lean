def qLM (cI : ClassId) (q : Nat → Nat) (o : Sg × Int) : Option Value → va_W → Prop := pC (mW cI q) (fun v f1 r1 => v = some (.long (zL o.2)) ∧ MRel f1 r1 o.1)
theorem qLM_ret {cI : ClassId} {q : Nat → Nat} {o : Sg × Int} {σ1 : Sg} {a : Int} {f1 : Nat → Int} {r1 : Nat → Nat → Int} (ho : o = (σ1, a)) (h : MRel f1 r1 σ1) : qLM cI q o (some (.long (zL a))) (mW cI q f1 r1) := by subst ho; exact ⟨f1, r1, rfl, rfl, h⟩
theorem sg_X10_draw : yX10_draw.cls = RX10 ∧ yX10_draw.cls ≠ "java/lang/invoke/MethodHandle" ∧ yX10_draw.cls ≠ "java/lang/invoke/VarHandle" ∧ (parseMethodDescriptor yX10_draw.desc).map (fun d => d.parameters.length) = some 1 := by decide +kernel
theorem sg_X10_draughts : yX10_draughts.cls = RX10 ∧ yX10_draughts.cls ≠ "java/lang/invoke/MethodHandle" ∧ yX10_draughts.cls ≠ "java/lang/invoke/VarHandle" ∧ (parseMethodDescriptor yX10_draughts.desc).map (fun d => d.parameters.length) = some 3 := by decide +kernel
theorem sg_X10_image : yX10_image.cls = RX10 ∧ yX10_image.cls ≠ "java/lang/invoke/MethodHandle" ∧ yX10_image.cls ≠ "java/lang/invoke/VarHandle" ∧ (parseMethodDescriptor yX10_image.desc).map (fun d => d.parameters.length) = some 0 := by decide +kernel
theorem sg_X10_restore : yX10_restore.cls = RX10 ∧ yX10_restore.cls ≠ "java/lang/invoke/MethodHandle" ∧ yX10_restore.cls ≠ "java/lang/invoke/VarHandle" ∧ (parseMethodDescriptor yX10_restore.desc).map (fun d => d.parameters.length) = some 0 := by decide +kernel
theorem sg_X10_countOf : yX10_countOf.cls = RX10 ∧ yX10_countOf.cls ≠ "java/lang/invoke/MethodHandle" ∧ yX10_countOf.cls ≠ "java/lang/invoke/VarHandle" ∧ (parseMethodDescriptor yX10_countOf.desc).map (fun d => d.parameters.length) = some 1 := by decide +kernel
theorem sg_X10_count : yX10_count.cls = RX10 ∧ yX10_count.cls ≠ "java/lang/invoke/MethodHandle" ∧ yX10_count.cls ≠ "java/lang/invoke/VarHandle" ∧ (parseMethodDescriptor yX10_count.desc).map (fun d => d.parameters.length) = some 1 := by decide +kernel
theorem sg_X10_say : yX10_say.cls = RX10 ∧ yX10_say.cls ≠ "java/lang/invoke/MethodHandle" ∧ yX10_say.cls ≠ "java/lang/invoke/VarHandle" ∧ (parseMethodDescriptor yX10_say.desc).map (fun d => d.parameters.length) = some 1 := by decide +kernel
theorem sg_X10_digest : yX10_digest.cls = RX10 ∧ yX10_digest.cls ≠ "java/lang/invoke/MethodHandle" ∧ yX10_digest.cls ≠ "java/lang/invoke/VarHandle" ∧ (parseMethodDescriptor yX10_digest.desc).map (fun d => d.parameters.length) = some 0 := by decide +kernel
-- Model.draw
set_option maxRecDepth 20000 in
theorem c_X10_draw (l : Launch) (D : va_G) (cI : ClassId) (q : Nat → Nat) (f : Nat → Int) (r : Nat → Nat → Int) (n s : Nat) (h13 : f 13 = (s : Int)) (hs : s < 2147483648) (hn : 0 < n ∧ n ≤ 6) : Cn l D cI yX10_draw cX10_draw 2 (some .int) 0 0 0 [.ref (q 0), .int (zI (n : Int))] (mW cI q f r) (pW (some (.int (zI ((sdn s / 65536 % n : Nat) : Int)))) (mW cI q (pu f 13 (sdn s : Int)) r)) := by
  refine Cn.of [(0, .ref (q 0)), (1, .int (zI (n : Int)))] (by decide +kernel) (Nat.le_of_ble_eq_true rfl) rfl (fun X hX hR => ?_)
  have hsd := sdn_lt s
  refine zg_aload_n hX 0 rfl dX10_draw_0 rfl 1 rfl ?_
  refine zg_ldc2 (a := 1103515245) hX mw_952 (by decide) dX10_draw_1 4 rfl ?_
  refine zg_aload_n hX 0 rfl dX10_draw_4 rfl 5 rfl ?_
  refine mg_0_24 hX mw_665 (s : Int) h13 dX10_draw_5 8 rfl ?_
  refine zg_i2l hX (by omega) dX10_draw_8 9 rfl ?_
  refine zg_lmul hX dX10_draw_9 10 rfl ?_
  refine zg_ldc2 (a := 12345) hX mw_953 (by decide) dX10_draw_10 13 rfl ?_
  refine zg_ladd hX dX10_draw_13 14 rfl ?_
  refine zg_ldc2 (a := 2147483647) hX mw_954 (by decide) dX10_draw_14 17 rfl ?_
  refine zg_land hX (sdn s : Int) (by rw [show (1103515245 * (s : Int) + 12345) = ((1103515245 * s + 12345 : Nat) : Int) by omega]; exact zL_low 2147483647 (k := 31) rfl) dX10_draw_17 18 rfl ?_
  refine zg_l2i hX dX10_draw_18 19 rfl ?_
  refine mp_0_24 hX mw_665 dX10_draw_19 22 rfl ?_
  refine zg_aload_n hX 0 rfl dX10_draw_22 rfl 23 rfl ?_
  refine mg_0_24 hX mw_665 (sdn s : Int) rfl dX10_draw_23 26 rfl ?_
  refine zg_ldc (a := 65536) hX mw_955 (by decide) dX10_draw_26 28 rfl ?_
  refine zg_idiv hX ((sdn s / 65536 : Nat) : Int) (by decide) (pk_div (by omega) (by decide) (by decide)) dX10_draw_28 29 rfl ?_
  refine zg_iload_n hX 1 rfl dX10_draw_29 rfl 30 rfl ?_
  refine zg_irem hX ((sdn s / 65536 % n : Nat) : Int) (by rw [zI_z, zI_eq (by omega) (by omega)]; omega) (pk_rem (by omega) (by omega) (by omega)) dX10_draw_30 31 rfl ?_
  exact zg_iret hX hR (Nat.le_refl _) (Nat.le_refl _) rfl dX10_draw_31 (⟨rfl, rfl⟩)
-- Model.draughts
set_option maxRecDepth 20000 in
theorem c_X10_draughts (l : Launch) (D : va_G) (cI : ClassId) (q : Nat → Nat) (f : Nat → Int) (r : Nat → Nat → Int) (σ : Sg) (B : Nat) (a b w : Int) (hσ : sOK σ B) (hB : B ≤ 100) (h : MRel f r σ) (ha : -2147483648 ≤ a ∧ a < 2147483648) (hb : -2147483648 ≤ b ∧ b < 2147483648) (hw : -2147483648 ≤ w ∧ w < 2147483648) : Cn l D cI yX10_draughts cX10_draughts 9 (some .int) 6 0 0 [.ref (q 0), .int (zI a), .int (zI b), .int (zI w)] (mW cI q f r) (qM cI q (o_draughts σ a b w)) := by
  refine Cn.of [(0, .ref (q 0)), (1, .int (zI a)), (2, .int (zI b)), (3, .int (zI w))] (by decide +kernel) (Nat.le_of_ble_eq_true rfl) rfl (fun X hX hR => ?_)
  have hsl := hσ.1
  have hg6 := hσ.2.1
  have hP := hσ.2.2.1
  have hE := hσ.2.2.2.1
  have hpb6 := hP.1
  have hpL9 := hP.2.1
  have hn4 := hE.1
  have hT6 := hE.2.2.2.2.1
  have hep := hE.2.2.2.2.2.2.2
  have hbk := hE.2.2.2.2.2.2.1
  have hs1 := hσ.2.2.2.2.2.1
  have hs2 := hσ.2.2.2.2.2.2.1
  have hs3 := hσ.2.2.2.2.2.2.2.1
  have hbd := hσ.2.2.2.2.2.2.2.2.1
  have hρ : RuOK (sr σ) := rho_OK hP hE
  have ht : tk (sr σ) (st σ) := rho_tk hE
  have hrb : rb (sr σ) = pb (sP σ) := rfl
  have hrn : rn (sr σ) = en (sE σ) := rfl
  have hrl : rl (sr σ) = pL (sP σ) := rfl
  have hm : mR f r (sr σ) := mR_of h.2.1 h.2.2.1
  refine zg_iload_n hX 1 rfl dX10_draughts_0 rfl 1 rfl ?_
  refine zg_i2l hX (by omega) dX10_draughts_1 2 rfl ?_
  refine zg_lconst (a := 1) hX (by decide) dX10_draughts_2 3 rfl ?_
  refine zg_ldc2 (a := 30) hX mw_946 (by decide) dX10_draughts_3 6 rfl ?_
  refine zg_callSi (As := [.long (zL a), .long (zL 1), .long (zL 30)]) (rest := []) hX (c_X10_in l D cI _ a 1 30 (by omega) (by omega) (by omega)) mw_746 mw_747 mw_10 mw_748 sg_X10_in.2 (by decide) (by decide) (Nat.le_refl _) (Nat.le_refl _) rfl (Nat.le_of_ble_eq_true rfl) dX10_draughts_6 9 rfl ?_
  refine zg_ifb_eq hX dX10_draughts_9 28 (by decide) 12 rfl (fun h9 => ?_) (fun h9 => ?_)
  · have h9a := of_decide_eq_false h9
    refine zg_bipush hX dX10_draughts_28 30 rfl (by decide) ?_
    exact zg_iret hX hR (Nat.le_refl _) (Nat.le_refl _) rfl dX10_draughts_30 (qM_ret (by unfold o_draughts; rw [if_neg (by omega)]) h)
  · have h9a := of_decide_eq_true h9
    refine zg_iload_n hX 2 rfl dX10_draughts_12 rfl 13 rfl ?_
    refine zg_if_lt hX (by omega) dX10_draughts_13 28 (by decide) 16 rfl (fun h13 => ?_) (fun h13 => ?_)
    · refine zg_bipush hX dX10_draughts_28 30 rfl (by decide) ?_
      exact zg_iret hX hR (Nat.le_refl _) (Nat.le_refl _) rfl dX10_draughts_30 (qM_ret (by unfold o_draughts; rw [if_neg (by omega)]) h)
    · refine zg_iload_n hX 3 rfl dX10_draughts_16 rfl 17 rfl ?_
      refine zg_i2l hX (by omega) dX10_draughts_17 18 rfl ?_
      refine zg_lconst (a := 0) hX (by decide) dX10_draughts_18 19 rfl ?_
      refine zg_ldc2 (a := 2) hX mw_947 (by decide) dX10_draughts_19 22 rfl ?_
      refine zg_callSi (As := [.long (zL w), .long (zL 0), .long (zL 2)]) (rest := []) hX (c_X10_in l D cI _ w 0 2 (by omega) (by omega) (by omega)) mw_746 mw_747 mw_10 mw_748 sg_X10_in.2 (by decide) (by decide) (Nat.le_refl _) (Nat.le_refl _) rfl (Nat.le_of_ble_eq_true rfl) dX10_draughts_22 25 rfl ?_
      refine zg_ifb_ne hX dX10_draughts_25 31 (by decide) 28 rfl (fun h25 => ?_) (fun h25 => ?_)
      · have h25a := of_decide_eq_true h25
        refine zg_aload_n hX 0 rfl dX10_draughts_31 rfl 32 rfl ?_
        refine mg_0_12 hX mw_653 (en (sE σ) : Int) h.2.2.1.1 dX10_draughts_32 35 rfl ?_
        refine zg_if_ne hX (by omega) dX10_draughts_35 41 (by decide) 38 rfl (fun h35 => ?_) (fun h35 => ?_)
        · have el41_1 : (a : Int) = (a.toNat : Int) := by omega
          refine zg_to (lv2 := [(0, .ref (q 0)), (1, .int (zI (a.toNat : Int))), (2, .int (zI b)), (3, .int (zI w))]) (ws2 := (mW cI q f r)) (st2 := []) ?_ rfl (by rw [← el41_1]) rfl
          have el41_2 : (b : Int) = (b.toNat : Int) := by omega
          refine zg_to (lv2 := [(0, .ref (q 0)), (1, .int (zI (a.toNat : Int))), (2, .int (zI (b.toNat : Int))), (3, .int (zI w))]) (ws2 := (mW cI q f r)) (st2 := []) ?_ rfl (by rw [← el41_2]) rfl
          refine zg_aload_n hX 0 rfl dX10_draughts_41 rfl 42 rfl ?_
          refine zg_iload_n hX 2 rfl dX10_draughts_42 rfl 43 rfl ?_
          refine mp_0_24 hX mw_665 dX10_draughts_43 46 rfl ?_
          refine zg_iconst hX dX10_draughts_46 47 rfl ?_
          refine zg_istore hX [(4, .int (zI 0)), (0, .ref (q 0)), (1, .int (zI (a.toNat : Int))), (2, .int (zI (b.toNat : Int))), (3, .int (zI w))] dX10_draughts_47 (by decide) rfl 49 rfl ?_
          refine zg_iconst hX dX10_draughts_49 50 rfl ?_
          refine zg_istore hX [(5, .int (zI 0)), (4, .int (zI 0)), (0, .ref (q 0)), (1, .int (zI (a.toNat : Int))), (2, .int (zI (b.toNat : Int))), (3, .int (zI w))] dX10_draughts_50 (by decide) rfl 52 rfl ?_
          refine zg_iconst hX dX10_draughts_52 53 rfl ?_
          refine zg_istore hX [(6, .int (zI 0)), (5, .int (zI 0)), (4, .int (zI 0)), (0, .ref (q 0)), (1, .int (zI (a.toNat : Int))), (2, .int (zI (b.toNat : Int))), (3, .int (zI w))] dX10_draughts_53 (by decide) rfl 55 rfl ?_
          have L55 : ∀ (fuel : Nat) (k : Nat) (F1 : Nat → Int) (R1 : Nat → Nat → Int) (x55_4 : Int) (x55_5 : Int) (x55_6 : Int), (a.toNat - k < fuel) → (k ≤ a.toNat) → (F1 13 = ((drN (sr σ) (st σ) b.toNat k).1 : Int)) → ((drN (sr σ) (st σ) b.toNat k).1 < 2147483648) → (frR r R1) → (MRel F1 R1 σ) → x55_4 = ((drN (sr σ) (st σ) b.toNat k).2.1 : Int) → x55_5 = ((drN (sr σ) (st σ) b.toNat k).2.2 : Int) → x55_6 = (k : Int) → G X 9 0 0 (mW cI q F1 R1) [(0, .ref (q 0)), (1, .int (zI (a.toNat : Int))), (2, .int (zI (b.toNat : Int))), (3, .int (zI w)), (4, .int (zI x55_4)), (5, .int (zI x55_5)), (6, .int (zI x55_6))] 55 [] := by
            intro fuel
            induction fuel with
            | zero =>
              intro k F1 R1 x55_4 x55_5 x55_6 hm55
              exact absurd hm55 (Nat.not_lt_zero _)
            | succ fuel ih55 =>
              intro k F1 R1 x55_4 x55_5 x55_6 hm55 hk g1 hz hx1 hr1 ex55_4 ex55_5 ex55_6
              subst ex55_4
              subst ex55_5
              subst ex55_6
              refine zg_iload hX 6 rfl dX10_draughts_55 57 rfl ?_
              refine zg_iload_n hX 1 rfl dX10_draughts_57 rfl 58 rfl ?_
              refine zg_icmp_ge hX (by omega) (by omega) dX10_draughts_58 128 (by decide) 61 rfl (fun h58 => ?_) (fun h58 => ?_)
              · refine zg_iload_n hX 3 rfl dX10_draughts_128 rfl 129 rfl ?_
                refine zg_if_ne hX (by omega) dX10_draughts_129 137 (by decide) 132 rfl (fun h129 => ?_) (fun h129 => ?_)
                · refine zg_iload_n hX 3 rfl dX10_draughts_137 rfl 138 rfl ?_
                  refine zg_iconst hX dX10_draughts_138 139 rfl ?_
                  refine zg_icmp_ne hX (by omega) (by omega) dX10_draughts_139 147 (by decide) 142 rfl (fun h139 => ?_) (fun h139 => ?_)
                  · refine zg_aload_n hX 0 rfl dX10_draughts_147 rfl 148 rfl ?_
                    refine mg_0_24 hX mw_665 ((drN (sr σ) (st σ) b.toNat k).1 : Int) g1 dX10_draughts_148 151 rfl ?_
                    exact zg_iret hX hR (Nat.le_refl _) (Nat.le_refl _) rfl dX10_draughts_151 (qM_ret (by unfold o_draughts drA; rw [if_pos (by omega), if_neg (by omega), show a.toNat = k by omega]; first | (rw [if_pos (by omega)]; done) | (rw [if_neg (by omega), if_pos (by omega)]; done) | (rw [if_neg (by omega), if_neg (by omega)]; done)) hr1)
                  · refine zg_iload hX 5 rfl dX10_draughts_142 144 rfl ?_
                    refine zg_goto hX dX10_draughts_144 151 (by decide) ?_
                    exact zg_iret hX hR (Nat.le_refl _) (Nat.le_refl _) rfl dX10_draughts_151 (qM_ret (by unfold o_draughts drA; rw [if_pos (by omega), if_neg (by omega), show a.toNat = k by omega]; first | (rw [if_pos (by omega)]; done) | (rw [if_neg (by omega), if_pos (by omega)]; done) | (rw [if_neg (by omega), if_neg (by omega)]; done)) hr1)
                · refine zg_iload hX 4 rfl dX10_draughts_132 134 rfl ?_
                  refine zg_goto hX dX10_draughts_134 151 (by decide) ?_
                  exact zg_iret hX hR (Nat.le_refl _) (Nat.le_refl _) rfl dX10_draughts_151 (qM_ret (by unfold o_draughts drA; rw [if_pos (by omega), if_neg (by omega), show a.toNat = k by omega]; first | (rw [if_pos (by omega)]; done) | (rw [if_neg (by omega), if_pos (by omega)]; done) | (rw [if_neg (by omega), if_neg (by omega)]; done)) hr1)
              · refine zg_aload_n hX 0 rfl dX10_draughts_61 rfl 62 rfl ?_
                refine zg_callV (As := []) (rest := []) (k0 := 0) (ci := 9) hX (c_X10_asItIs l D cI q F1 R1 (sr σ) hρ (mR_of hr1.2.1 hr1.2.2.1)) mw_797 mw_799 mw_s17 mw_10 mw_800 sg_X10_asItIs (by decide) (by decide) (Nat.le_refl _) (Nat.le_refl _) rfl rfl rfl (Nat.le_of_ble_eq_true rfl) dX10_draughts_62 65 rfl (fun v62 W62 hp62 => ?_)
                obtain ⟨R62, rfl, rfl, hl62⟩ := hp62
                show G X 9 0 0 (mW cI q F1 R62) [(0, .ref (q 0)), (1, .int (zI (a.toNat : Int))), (2, .int (zI (b.toNat : Int))), (3, .int (zI w)), (4, .int (zI ((drN (sr σ) (st σ) b.toNat k).2.1 : Int))), (5, .int (zI ((drN (sr σ) (st σ) b.toNat k).2.2 : Int))), (6, .int (zI (k : Int)))] 65 []
                have hx62 : frR r R62 := hx1.tr (frR_lay hl62 (by omega))
                have hr62 : MRel F1 R62 σ := MRel_r hr1 (frR_lay hl62 (by omega))
                have hn62 : ∀ p, p < rn (sr σ) → R62 5 p = (st σ p : Int) := fun p hp => (hl62.2 p hp).trans (hr1.2.2.1.2.2.2.2.2.1 p hp)
                refine zg_iconst hX dX10_draughts_65 66 rfl ?_
                refine zg_istore hX [(7, .int (zI 0)), (0, .ref (q 0)), (1, .int (zI (a.toNat : Int))), (2, .int (zI (b.toNat : Int))), (3, .int (zI w)), (4, .int (zI ((drN (sr σ) (st σ) b.toNat k).2.1 : Int))), (5, .int (zI ((drN (sr σ) (st σ) b.toNat k).2.2 : Int))), (6, .int (zI (k : Int)))] dX10_draughts_66 (by decide) rfl 68 rfl ?_
                have L68 : ∀ (fuel : Nat) (i : Nat) (F2 : Nat → Int) (R2 : Nat → Nat → Int) (x68_4 : Int) (x68_5 : Int) (x68_7 : Int), (pb (sP σ) - i < fuel) → (i ≤ pb (sP σ)) → (F2 13 = ((drB (sr σ) (st σ) (drN (sr σ) (st σ) b.toNat k) i).1 : Int)) → ((drB (sr σ) (st σ) (drN (sr σ) (st σ) b.toNat k) i).1 < 2147483648) → (frR r R2) → (MRel F2 R2 σ) → (∀ p, p < rn (sr σ) → R2 5 p = ((drB (sr σ) (st σ) (drN (sr σ) (st σ) b.toNat k) i).2.2.2 p : Int)) → (tk (sr σ) (drB (sr σ) (st σ) (drN (sr σ) (st σ) b.toNat k) i).2.2.2) → x68_4 = ((drB (sr σ) (st σ) (drN (sr σ) (st σ) b.toNat k) i).2.1 : Int) → x68_5 = ((drB (sr σ) (st σ) (drN (sr σ) (st σ) b.toNat k) i).2.2.1 : Int) → x68_7 = (i : Int) → G X 9 0 0 (mW cI q F2 R2) [(0, .ref (q 0)), (1, .int (zI (a.toNat : Int))), (2, .int (zI (b.toNat : Int))), (3, .int (zI w)), (4, .int (zI x68_4)), (5, .int (zI x68_5)), (6, .int (zI (k : Int))), (7, .int (zI x68_7))] 68 [] := by
                  intro fuel
                  induction fuel with
                  | zero =>
                    intro i F2 R2 x68_4 x68_5 x68_7 hm68
                    exact absurd hm68 (Nat.not_lt_zero _)
                  | succ fuel ih68 =>
                    intro i F2 R2 x68_4 x68_5 x68_7 hm68 hi g2 hsd hx2 hr2 hn2 htk ex68_4 ex68_5 ex68_7
                    subst ex68_4
                    subst ex68_5
                    subst ex68_7
                    refine zg_iload hX 7 rfl dX10_draughts_68 70 rfl ?_
                    refine zg_aload_n hX 0 rfl dX10_draughts_70 rfl 71 rfl ?_
                    refine mg_0_6 hX mw_647 (pb (sP σ) : Int) hr2.2.1.1 dX10_draughts_71 74 rfl ?_
                    refine zg_icmp_ge hX (by omega) (by omega) dX10_draughts_74 122 (by decide) 77 rfl (fun h74 => ?_) (fun h74 => ?_)
                    · refine zg_iinc hX [(6, .int (zI ((k : Int) + 1))), (0, .ref (q 0)), (1, .int (zI (a.toNat : Int))), (2, .int (zI (b.toNat : Int))), (3, .int (zI w)), (4, .int (zI ((drB (sr σ) (st σ) (drN (sr σ) (st σ) b.toNat k) i).2.1 : Int))), (5, .int (zI ((drB (sr σ) (st σ) (drN (sr σ) (st σ) b.toNat k) i).2.2.1 : Int))), (7, .int (zI (i : Int)))] 6 rfl dX10_draughts_122 (by decide) rfl 125 rfl ?_
                      refine zg_goto hX dX10_draughts_125 55 (by decide) ?_
                      exact zg_lv _ [1, 2, 3, 4, 5, 6, 0] rfl (ih55 (k + 1) F2 R2 _ _ _ (by omega) (by omega) (by rw [g2, show i = rb (sr σ) by omega]; rfl) (drB_lt hz _) (hx2) (hr2) (by rw [show i = rb (sr σ) by omega]; rfl) (by rw [show i = rb (sr σ) by omega]; rfl) (by omega))
                    · have hsd1 := sdn_lt (drB (sr σ) (st σ) (drN (sr σ) (st σ) b.toNat k) i).1
                      have hsd2 := sdn_lt (sdn (drB (sr σ) (st σ) (drN (sr σ) (st σ) b.toNat k) i).1)
                      have hpn : (sdn (drB (sr σ) (st σ) (drN (sr σ) (st σ) b.toNat k) i).1 / 65536 % rn (sr σ)) < rn (sr σ) := Nat.mod_lt _ (by omega)
                      refine zg_aload_n hX 0 rfl dX10_draughts_77 rfl 78 rfl ?_
                      refine zg_aload_n hX 0 rfl dX10_draughts_78 rfl 79 rfl ?_
                      refine mg_0_12 hX mw_653 (en (sE σ) : Int) hr2.2.2.1.1 dX10_draughts_79 82 rfl ?_
                      refine zg_callV (As := [.int (zI (en (sE σ) : Int))]) (rest := []) (k0 := 0) (ci := 9) hX (c_X10_draw l D cI q F2 R2 (en (sE σ)) (drB (sr σ) (st σ) (drN (sr σ) (st σ) b.toNat k) i).1 g2 hsd (by omega)) mw_948 mw_950 mw_s39 mw_10 mw_951 sg_X10_draw (by decide) (by decide) (Nat.le_refl _) (Nat.le_refl _) rfl rfl rfl (Nat.le_of_ble_eq_true rfl) dX10_draughts_82 85 rfl (fun v82 W82 hp82 => ?_)
                      obtain ⟨rfl, rfl⟩ := hp82
                      show G X 9 0 0 (mW cI q (pu F2 13 (sdn (drB (sr σ) (st σ) (drN (sr σ) (st σ) b.toNat k) i).1 : Int)) R2) [(0, .ref (q 0)), (1, .int (zI (a.toNat : Int))), (2, .int (zI (b.toNat : Int))), (3, .int (zI w)), (4, .int (zI ((drB (sr σ) (st σ) (drN (sr σ) (st σ) b.toNat k) i).2.1 : Int))), (5, .int (zI ((drB (sr σ) (st σ) (drN (sr σ) (st σ) b.toNat k) i).2.2.1 : Int))), (6, .int (zI (k : Int))), (7, .int (zI (i : Int)))] 85 [.int (zI ((sdn (drB (sr σ) (st σ) (drN (sr σ) (st σ) b.toNat k) i).1 / 65536 % en (sE σ) : Nat) : Int))]
                      refine zg_istore hX [(8, .int (zI ((sdn (drB (sr σ) (st σ) (drN (sr σ) (st σ) b.toNat k) i).1 / 65536 % en (sE σ) : Nat) : Int))), (0, .ref (q 0)), (1, .int (zI (a.toNat : Int))), (2, .int (zI (b.toNat : Int))), (3, .int (zI w)), (4, .int (zI ((drB (sr σ) (st σ) (drN (sr σ) (st σ) b.toNat k) i).2.1 : Int))), (5, .int (zI ((drB (sr σ) (st σ) (drN (sr σ) (st σ) b.toNat k) i).2.2.1 : Int))), (6, .int (zI (k : Int))), (7, .int (zI (i : Int)))] dX10_draughts_85 (by decide) rfl 87 rfl ?_
                      refine zg_aload_n hX 1 rfl dX10_draughts_87 rfl 88 rfl ?_
                      refine zg_bipush hX dX10_draughts_88 90 rfl (by decide) ?_
                      refine zg_callV (As := [.int (zI 6)]) (rest := []) (k0 := 0) (ci := 9) hX (c_X10_draw l D cI q (pu F2 13 (sdn (drB (sr σ) (st σ) (drN (sr σ) (st σ) b.toNat k) i).1 : Int)) R2 6 (sdn (drB (sr σ) (st σ) (drN (sr σ) (st σ) b.toNat k) i).1) rfl hsd1 (by omega)) mw_948 mw_950 mw_s39 mw_10 mw_951 sg_X10_draw (by decide) (by decide) (Nat.le_refl _) (Nat.le_refl _) rfl rfl rfl (Nat.le_of_ble_eq_true rfl) dX10_draughts_90 93 rfl (fun v90 W90 hp90 => ?_)
                      obtain ⟨rfl, rfl⟩ := hp90
                      show G X 9 0 0 (mW cI q (pu (pu F2 13 (sdn (drB (sr σ) (st σ) (drN (sr σ) (st σ) b.toNat k) i).1 : Int)) 13 (sdn (sdn (drB (sr σ) (st σ) (drN (sr σ) (st σ) b.toNat k) i).1) : Int)) R2) [(8, .int (zI ((sdn (drB (sr σ) (st σ) (drN (sr σ) (st σ) b.toNat k) i).1 / 65536 % en (sE σ) : Nat) : Int))), (0, .ref (q 0)), (1, .int (zI (a.toNat : Int))), (2, .int (zI (b.toNat : Int))), (3, .int (zI w)), (4, .int (zI ((drB (sr σ) (st σ) (drN (sr σ) (st σ) b.toNat k) i).2.1 : Int))), (5, .int (zI ((drB (sr σ) (st σ) (drN (sr σ) (st σ) b.toNat k) i).2.2.1 : Int))), (6, .int (zI (k : Int))), (7, .int (zI (i : Int)))] 93 [.int (zI ((sdn (sdn (drB (sr σ) (st σ) (drN (sr σ) (st σ) b.toNat k) i).1) / 65536 % 6 : Nat) : Int))]
                      have hr90 : MRel (pu (pu F2 13 (sdn (drB (sr σ) (st σ) (drN (sr σ) (st σ) b.toNat k) i).1 : Int)) 13 (sdn (sdn (drB (sr σ) (st σ) (drN (sr σ) (st σ) b.toNat k) i).1) : Int)) R2 σ := MRel_f hr2 (fun j _ _ _ d _ => by rw [pu_ne _ _ d, pu_ne _ _ d])
                      refine zg_if_ne hX (by omega) dX10_draughts_93 105 (by decide) 96 rfl (fun h93 => ?_) (fun h93 => ?_)
                      · have hdr : ¬ sdn (sdn (drB (sr σ) (st σ) (drN (sr σ) (st σ) b.toNat k) i).1) / 65536 % 6 = 0 := by omega
                        have hT : (drT (sr σ) (drB (sr σ) (st σ) (drN (sr σ) (st σ) b.toNat k) i).1 (drB (sr σ) (st σ) (drN (sr σ) (st σ) b.toNat k) i).2.2.2) = (drB (sr σ) (st σ) (drN (sr σ) (st σ) b.toNat k) i).2.2.2 := by unfold drT; rw [if_neg hdr]
                        have hn9 : ∀ p, p < rn (sr σ) → R2 5 p = ((drT (sr σ) (drB (sr σ) (st σ) (drN (sr σ) (st σ) b.toNat k) i).1 (drB (sr σ) (st σ) (drN (sr σ) (st σ) b.toNat k) i).2.2.2) p : Int) := by rw [hT]; exact hn2
                        have ht9 : tk (sr σ) (drT (sr σ) (drB (sr σ) (st σ) (drN (sr σ) (st σ) b.toNat k) i).1 (drB (sr σ) (st σ) (drN (sr σ) (st σ) b.toNat k) i).2.2.2) := by rw [hT]; exact htk
                        have hr9 := hr90
                        have hx9 := hx2
                        refine zg_iload hX 5 rfl dX10_draughts_105 107 rfl ?_
                        refine zg_aload_n hX 1 rfl dX10_draughts_107 rfl 108 rfl ?_
                        refine zg_iload hX 8 rfl dX10_draughts_108 110 rfl ?_
                        refine zg_callV (As := [.int (zI (i : Int))]) (rest := [.int (zI ((drB (sr σ) (st σ) (drN (sr σ) (st σ) b.toNat k) i).2.1 : Int))]) (k0 := 0) (ci := 9) hX (c_X10_plays l D cI q (pu (pu F2 13 (sdn (drB (sr σ) (st σ) (drN (sr σ) (st σ) b.toNat k) i).1 : Int)) 13 (sdn (sdn (drB (sr σ) (st σ) (drN (sr σ) (st σ) b.toNat k) i).1) : Int)) R2 (sr σ) (drT (sr σ) (drB (sr σ) (st σ) (drN (sr σ) (st σ) b.toNat k) i).1 (drB (sr σ) (st σ) (drN (sr σ) (st σ) b.toNat k) i).2.2.2) i hρ (mR_of hr9.2.1 hr9.2.2.1) hn9 ht9 (by omega)) mw_805 mw_807 mw_s19 mw_10 mw_808 sg_X10_plays (by decide) (by decide) (Nat.le_refl _) (Nat.le_refl _) rfl rfl rfl (Nat.le_of_ble_eq_true rfl) dX10_draughts_110 113 rfl (fun v110 W110 hp110 => ?_)
                        obtain ⟨R110, rfl, rfl, hf110, hs110, -⟩ := hp110
                        show G X 9 0 0 (mW cI q (pu (pu F2 13 (sdn (drB (sr σ) (st σ) (drN (sr σ) (st σ) b.toNat k) i).1 : Int)) 13 (sdn (sdn (drB (sr σ) (st σ) (drN (sr σ) (st σ) b.toNat k) i).1) : Int)) R110) [(8, .int (zI ((sdn (drB (sr σ) (st σ) (drN (sr σ) (st σ) b.toNat k) i).1 / 65536 % en (sE σ) : Nat) : Int))), (0, .ref (q 0)), (1, .int (zI (a.toNat : Int))), (2, .int (zI (b.toNat : Int))), (3, .int (zI w)), (4, .int (zI ((drB (sr σ) (st σ) (drN (sr σ) (st σ) b.toNat k) i).2.1 : Int))), (5, .int (zI ((drB (sr σ) (st σ) (drN (sr σ) (st σ) b.toNat k) i).2.2.1 : Int))), (6, .int (zI (k : Int))), (7, .int (zI (i : Int)))] 113 [.int (zI (lo (sr σ) i (drT (sr σ) (drB (sr σ) (st σ) (drN (sr σ) (st σ) b.toNat k) i).1 (drB (sr σ) (st σ) (drN (sr σ) (st σ) b.toNat k) i).2.2.2) : Int)), .int (zI ((drB (sr σ) (st σ) (drN (sr σ) (st σ) b.toNat k) i).2.1 : Int))]
                        refine zg_iadd hX dX10_draughts_113 114 rfl ?_
                        refine zg_istore hX [(4, .int (zI (((drB (sr σ) (st σ) (drN (sr σ) (st σ) b.toNat k) i).2.1 : Int) + (lo (sr σ) i (drT (sr σ) (drB (sr σ) (st σ) (drN (sr σ) (st σ) b.toNat k) i).1 (drB (sr σ) (st σ) (drN (sr σ) (st σ) b.toNat k) i).2.2.2) : Int)))), (8, .int (zI ((sdn (drB (sr σ) (st σ) (drN (sr σ) (st σ) b.toNat k) i).1 / 65536 % en (sE σ) : Nat) : Int))), (0, .ref (q 0)), (1, .int (zI (a.toNat : Int))), (2, .int (zI (b.toNat : Int))), (3, .int (zI w)), (5, .int (zI ((drB (sr σ) (st σ) (drN (sr σ) (st σ) b.toNat k) i).2.2.1 : Int))), (6, .int (zI (k : Int))), (7, .int (zI (i : Int)))] dX10_draughts_114 (by decide) rfl 116 rfl ?_
                        refine zg_iinc hX [(7, .int (zI ((i : Int) + 1))), (4, .int (zI (((drB (sr σ) (st σ) (drN (sr σ) (st σ) b.toNat k) i).2.1 : Int) + (lo (sr σ) i (drT (sr σ) (drB (sr σ) (st σ) (drN (sr σ) (st σ) b.toNat k) i).1 (drB (sr σ) (st σ) (drN (sr σ) (st σ) b.toNat k) i).2.2.2) : Int)))), (8, .int (zI ((sdn (drB (sr σ) (st σ) (drN (sr σ) (st σ) b.toNat k) i).1 / 65536 % en (sE σ) : Nat) : Int))), (0, .ref (q 0)), (1, .int (zI (a.toNat : Int))), (2, .int (zI (b.toNat : Int))), (3, .int (zI w)), (5, .int (zI ((drB (sr σ) (st σ) (drN (sr σ) (st σ) b.toNat k) i).2.2.1 : Int))), (6, .int (zI (k : Int)))] 8 rfl dX10_draughts_116 (by decide) rfl 119 rfl ?_
                        refine zg_goto hX dX10_draughts_119 68 (by decide) ?_
                        exact zg_lv _ [3, 4, 5, 6, 1, 7, 8, 0] rfl (ih68 (i + 1) (pu (pu F2 13 (sdn (drB (sr σ) (st σ) (drN (sr σ) (st σ) b.toNat k) i).1 : Int)) 13 (sdn (sdn (drB (sr σ) (st σ) (drN (sr σ) (st σ) b.toNat k) i).1) : Int)) R110 _ _ _ (by omega) (by omega) (rfl) (hsd2) (hx9.tr (frR_567 hf110)) (MRel_r hr9 (frR_567 hf110)) (hs110) (tk_be _ _ _) (rfl) (by
                            show _ = (((((drB (sr σ) (st σ) (drN (sr σ) (st σ) b.toNat k) i)).2.2.1 + (if sdn (sdn (drB (sr σ) (st σ) (drN (sr σ) (st σ) b.toNat k) i).1) / 65536 % 6 = 0 then 1 else 0)) : Nat) : Int)
                            first | (rw [if_pos hdr]; rfl) | (rw [if_neg hdr]; rfl)) (by omega))
                      · have hdr : sdn (sdn (drB (sr σ) (st σ) (drN (sr σ) (st σ) b.toNat k) i).1) / 65536 % 6 = 0 := by omega
                        have hT : (drT (sr σ) (drB (sr σ) (st σ) (drN (sr σ) (st σ) b.toNat k) i).1 (drB (sr σ) (st σ) (drN (sr σ) (st σ) b.toNat k) i).2.2.2) = rf (drB (sr σ) (st σ) (drN (sr σ) (st σ) b.toNat k) i).2.2.2 (sdn (drB (sr σ) (st σ) (drN (sr σ) (st σ) b.toNat k) i).1 / 65536 % rn (sr σ)) := by unfold drT; rw [if_pos hdr]
                        refine zg_aload_n hX 1 rfl dX10_draughts_96 rfl 97 rfl ?_
                        refine zg_iload hX 0 rfl dX10_draughts_97 99 rfl ?_
                        refine zg_callV (As := [.int (zI ((sdn (drB (sr σ) (st σ) (drN (sr σ) (st σ) b.toNat k) i).1 / 65536 % en (sE σ) : Nat) : Int))]) (rest := []) (k0 := 0) (ci := 9) hX (c_X10_drinks l D cI q (pu (pu F2 13 (sdn (drB (sr σ) (st σ) (drN (sr σ) (st σ) b.toNat k) i).1 : Int)) 13 (sdn (sdn (drB (sr σ) (st σ) (drN (sr σ) (st σ) b.toNat k) i).1) : Int)) R2 (sr σ) (drB (sr σ) (st σ) (drN (sr σ) (st σ) b.toNat k) i).2.2.2 (sdn (drB (sr σ) (st σ) (drN (sr σ) (st σ) b.toNat k) i).1 / 65536 % rn (sr σ)) hρ (mR_of hr90.2.1 hr90.2.2.1) hn2 htk hpn) mw_856 mw_858 mw_s28 mw_10 mw_859 sg_X10_drinks (by decide) (by decide) (Nat.le_refl _) (Nat.le_refl _) rfl rfl rfl (Nat.le_of_ble_eq_true rfl) dX10_draughts_99 102 rfl (fun v99 W99 hp99 => ?_)
                        obtain ⟨R99, rfl, rfl, hf99, hs99⟩ := hp99
                        show G X 9 0 0 (mW cI q (pu (pu F2 13 (sdn (drB (sr σ) (st σ) (drN (sr σ) (st σ) b.toNat k) i).1 : Int)) 13 (sdn (sdn (drB (sr σ) (st σ) (drN (sr σ) (st σ) b.toNat k) i).1) : Int)) R99) [(8, .int (zI ((sdn (drB (sr σ) (st σ) (drN (sr σ) (st σ) b.toNat k) i).1 / 65536 % en (sE σ) : Nat) : Int))), (0, .ref (q 0)), (1, .int (zI (a.toNat : Int))), (2, .int (zI (b.toNat : Int))), (3, .int (zI w)), (4, .int (zI ((drB (sr σ) (st σ) (drN (sr σ) (st σ) b.toNat k) i).2.1 : Int))), (5, .int (zI ((drB (sr σ) (st σ) (drN (sr σ) (st σ) b.toNat k) i).2.2.1 : Int))), (6, .int (zI (k : Int))), (7, .int (zI (i : Int)))] 102 []
                        have hr9 : MRel (pu (pu F2 13 (sdn (drB (sr σ) (st σ) (drN (sr σ) (st σ) b.toNat k) i).1 : Int)) 13 (sdn (sdn (drB (sr σ) (st σ) (drN (sr σ) (st σ) b.toNat k) i).1) : Int)) R99 σ := MRel_r hr90 (frR_1 hf99 (by omega))
                        have hx9 : frR r R99 := hx2.tr (frR_1 hf99 (by omega))
                        have hn9 : ∀ p, p < rn (sr σ) → R99 5 p = ((drT (sr σ) (drB (sr σ) (st σ) (drN (sr σ) (st σ) b.toNat k) i).1 (drB (sr σ) (st σ) (drN (sr σ) (st σ) b.toNat k) i).2.2.2) p : Int) := by rw [hT]; exact hs99
                        have ht9 : tk (sr σ) (drT (sr σ) (drB (sr σ) (st σ) (drN (sr σ) (st σ) b.toNat k) i).1 (drB (sr σ) (st σ) (drN (sr σ) (st σ) b.toNat k) i).2.2.2) := by rw [hT]; exact tk_rf htk hpn
                        refine zg_iinc hX [(5, .int (zI (((drB (sr σ) (st σ) (drN (sr σ) (st σ) b.toNat k) i).2.2.1 : Int) + 1))), (8, .int (zI ((sdn (drB (sr σ) (st σ) (drN (sr σ) (st σ) b.toNat k) i).1 / 65536 % en (sE σ) : Nat) : Int))), (0, .ref (q 0)), (1, .int (zI (a.toNat : Int))), (2, .int (zI (b.toNat : Int))), (3, .int (zI w)), (4, .int (zI ((drB (sr σ) (st σ) (drN (sr σ) (st σ) b.toNat k) i).2.1 : Int))), (6, .int (zI (k : Int))), (7, .int (zI (i : Int)))] 6 rfl dX10_draughts_102 (by decide) rfl 105 rfl ?_
                        refine zg_iload hX 6 rfl dX10_draughts_105 107 rfl ?_
                        refine zg_aload_n hX 2 rfl dX10_draughts_107 rfl 108 rfl ?_
                        refine zg_iload hX 8 rfl dX10_draughts_108 110 rfl ?_
                        refine zg_callV (As := [.int (zI (i : Int))]) (rest := [.int (zI ((drB (sr σ) (st σ) (drN (sr σ) (st σ) b.toNat k) i).2.1 : Int))]) (k0 := 0) (ci := 9) hX (c_X10_plays l D cI q (pu (pu F2 13 (sdn (drB (sr σ) (st σ) (drN (sr σ) (st σ) b.toNat k) i).1 : Int)) 13 (sdn (sdn (drB (sr σ) (st σ) (drN (sr σ) (st σ) b.toNat k) i).1) : Int)) R99 (sr σ) (drT (sr σ) (drB (sr σ) (st σ) (drN (sr σ) (st σ) b.toNat k) i).1 (drB (sr σ) (st σ) (drN (sr σ) (st σ) b.toNat k) i).2.2.2) i hρ (mR_of hr9.2.1 hr9.2.2.1) hn9 ht9 (by omega)) mw_805 mw_807 mw_s19 mw_10 mw_808 sg_X10_plays (by decide) (by decide) (Nat.le_refl _) (Nat.le_refl _) rfl rfl rfl (Nat.le_of_ble_eq_true rfl) dX10_draughts_110 113 rfl (fun v110 W110 hp110 => ?_)
                        obtain ⟨R110, rfl, rfl, hf110, hs110, -⟩ := hp110
                        show G X 9 0 0 (mW cI q (pu (pu F2 13 (sdn (drB (sr σ) (st σ) (drN (sr σ) (st σ) b.toNat k) i).1 : Int)) 13 (sdn (sdn (drB (sr σ) (st σ) (drN (sr σ) (st σ) b.toNat k) i).1) : Int)) R110) [(5, .int (zI (((drB (sr σ) (st σ) (drN (sr σ) (st σ) b.toNat k) i).2.2.1 : Int) + 1))), (8, .int (zI ((sdn (drB (sr σ) (st σ) (drN (sr σ) (st σ) b.toNat k) i).1 / 65536 % en (sE σ) : Nat) : Int))), (0, .ref (q 0)), (1, .int (zI (a.toNat : Int))), (2, .int (zI (b.toNat : Int))), (3, .int (zI w)), (4, .int (zI ((drB (sr σ) (st σ) (drN (sr σ) (st σ) b.toNat k) i).2.1 : Int))), (6, .int (zI (k : Int))), (7, .int (zI (i : Int)))] 113 [.int (zI (lo (sr σ) i (drT (sr σ) (drB (sr σ) (st σ) (drN (sr σ) (st σ) b.toNat k) i).1 (drB (sr σ) (st σ) (drN (sr σ) (st σ) b.toNat k) i).2.2.2) : Int)), .int (zI ((drB (sr σ) (st σ) (drN (sr σ) (st σ) b.toNat k) i).2.1 : Int))]
                        refine zg_iadd hX dX10_draughts_113 114 rfl ?_
                        refine zg_istore hX [(4, .int (zI (((drB (sr σ) (st σ) (drN (sr σ) (st σ) b.toNat k) i).2.1 : Int) + (lo (sr σ) i (drT (sr σ) (drB (sr σ) (st σ) (drN (sr σ) (st σ) b.toNat k) i).1 (drB (sr σ) (st σ) (drN (sr σ) (st σ) b.toNat k) i).2.2.2) : Int)))), (5, .int (zI (((drB (sr σ) (st σ) (drN (sr σ) (st σ) b.toNat k) i).2.2.1 : Int) + 1))), (8, .int (zI ((sdn (drB (sr σ) (st σ) (drN (sr σ) (st σ) b.toNat k) i).1 / 65536 % en (sE σ) : Nat) : Int))), (0, .ref (q 0)), (1, .int (zI (a.toNat : Int))), (2, .int (zI (b.toNat : Int))), (3, .int (zI w)), (6, .int (zI (k : Int))), (7, .int (zI (i : Int)))] dX10_draughts_114 (by decide) rfl 116 rfl ?_
                        refine zg_iinc hX [(7, .int (zI ((i : Int) + 1))), (4, .int (zI (((drB (sr σ) (st σ) (drN (sr σ) (st σ) b.toNat k) i).2.1 : Int) + (lo (sr σ) i (drT (sr σ) (drB (sr σ) (st σ) (drN (sr σ) (st σ) b.toNat k) i).1 (drB (sr σ) (st σ) (drN (sr σ) (st σ) b.toNat k) i).2.2.2) : Int)))), (5, .int (zI (((drB (sr σ) (st σ) (drN (sr σ) (st σ) b.toNat k) i).2.2.1 : Int) + 1))), (8, .int (zI ((sdn (drB (sr σ) (st σ) (drN (sr σ) (st σ) b.toNat k) i).1 / 65536 % en (sE σ) : Nat) : Int))), (0, .ref (q 0)), (1, .int (zI (a.toNat : Int))), (2, .int (zI (b.toNat : Int))), (3, .int (zI w)), (6, .int (zI (k : Int)))] 8 rfl dX10_draughts_116 (by decide) rfl 119 rfl ?_
                        refine zg_goto hX dX10_draughts_119 68 (by decide) ?_
                        exact zg_lv _ [4, 5, 6, 7, 1, 2, 8, 0] rfl (ih68 (i + 1) (pu (pu F2 13 (sdn (drB (sr σ) (st σ) (drN (sr σ) (st σ) b.toNat k) i).1 : Int)) 13 (sdn (sdn (drB (sr σ) (st σ) (drN (sr σ) (st σ) b.toNat k) i).1) : Int)) R110 _ _ _ (by omega) (by omega) (rfl) (hsd2) (hx9.tr (frR_567 hf110)) (MRel_r hr9 (frR_567 hf110)) (hs110) (tk_be _ _ _) (rfl) (by
                            show _ = (((((drB (sr σ) (st σ) (drN (sr σ) (st σ) b.toNat k) i)).2.2.1 + (if sdn (sdn (drB (sr σ) (st σ) (drN (sr σ) (st σ) b.toNat k) i).1) / 65536 % 6 = 0 then 1 else 0)) : Nat) : Int)
                            first | (rw [if_pos hdr]; rfl) | (rw [if_neg hdr]; rfl)) (by omega))
                exact zg_lv _ [1, 2, 3, 4, 5, 6, 7, 0] rfl (L68 _ 0 F1 R62 _ _ _ (Nat.lt_succ_self _) (by omega) (g1) (hz) (hx62) (hr62) (hn62) (ht) (rfl) (rfl) (rfl))
          exact zg_lv _ [3, 4, 5, 6, 2, 1, 0] rfl (L55 _ 0 (pu f 13 (b.toNat : Int)) r _ _ _ (Nat.lt_succ_self _) (by omega) (rfl) (by show b.toNat < _; omega) (frR_rf r) (MRel_f h (fun j _ _ _ d _ => pu_ne _ _ d)) (rfl) (rfl) (rfl))
        · refine zg_bipush hX dX10_draughts_38 40 rfl (by decide) ?_
          exact zg_iret hX hR (Nat.le_refl _) (Nat.le_refl _) rfl dX10_draughts_40 (qM_ret (by unfold o_draughts; rw [if_pos (by omega), if_pos (by omega)]) h)
      · have h25a := of_decide_eq_false h25
        refine zg_bipush hX dX10_draughts_28 30 rfl (by decide) ?_
        exact zg_iret hX hR (Nat.le_refl _) (Nat.le_refl _) rfl dX10_draughts_30 (qM_ret (by unfold o_draughts; rw [if_neg (by omega)]) h)
-- Model.image
set_option maxRecDepth 20000 in
theorem c_X10_image (l : Launch) (D : va_G) (cI : ClassId) (q : Nat → Nat) (f : Nat → Int) (r : Nat → Nat → Int) (σ : Sg) (B : Nat)  (hσ : sOK σ B) (hB : B ≤ 100) (h : MRel f r σ) : Cn l D cI yX10_image cX10_image 1 (some .int) 1 0 0 [.ref (q 0)] (mW cI q f r) (qM cI q (o_image σ)) := by
  refine Cn.of [(0, .ref (q 0))] (by decide +kernel) (Nat.le_of_ble_eq_true rfl) rfl (fun X hX hR => ?_)
  have hsl := hσ.1
  have hg6 := hσ.2.1
  have hP := hσ.2.2.1
  have hE := hσ.2.2.2.1
  have hpb6 := hP.1
  have hpL9 := hP.2.1
  have hn4 := hE.1
  have hT6 := hE.2.2.2.2.1
  have hep := hE.2.2.2.2.2.2.2
  have hbk := hE.2.2.2.2.2.2.1
  have hs1 := hσ.2.2.2.2.2.1
  have hs2 := hσ.2.2.2.2.2.2.1
  have hs3 := hσ.2.2.2.2.2.2.2.1
  have hbd := hσ.2.2.2.2.2.2.2.2.1
  have hρ : RuOK (sr σ) := rho_OK hP hE
  have ht : tk (sr σ) (st σ) := rho_tk hE
  have hrb : rb (sr σ) = pb (sP σ) := rfl
  have hrn : rn (sr σ) = en (sE σ) := rfl
  have hrl : rl (sr σ) = pL (sP σ) := rfl
  have hm : mR f r (sr σ) := mR_of h.2.1 h.2.2.1
  refine zg_aload_n hX 0 rfl dX10_image_0 rfl 1 rfl ?_
  refine zg_callVi (As := []) (rest := []) (k0 := 0) (ci := 9) hX (c_X10_lacks l D cI q f r (sr σ) hρ hm) mw_781 mw_783 mw_s14 mw_10 mw_784 sg_X10_lacks (by decide) (by decide) (Nat.le_refl _) (Nat.le_refl _) rfl rfl rfl (Nat.le_of_ble_eq_true rfl) dX10_image_1 4 rfl ?_
  refine zg_ifb_eq hX dX10_image_4 10 (by decide) 7 rfl (fun h4 => ?_) (fun h4 => ?_)
  · have hlk := of_decide_eq_false h4
    refine zg_aload_n hX 0 rfl dX10_image_10 rfl 11 rfl ?_
    refine mg_0_13 hX mw_654 dX10_image_11 14 rfl ?_
    refine zg_aload_n hX 0 rfl dX10_image_14 rfl 15 rfl ?_
    refine mg_0_30 hX mw_671 dX10_image_15 18 rfl ?_
    refine zg_callS (As := [.ref (q 4), .ref (q 12)]) (rest := []) hX (c_X10_copy_3_11 l D cI q f r) mw_774 mw_775 mw_10 mw_776 sg_X10_copy.2 (by decide) (by decide) (Nat.le_refl _) (Nat.le_refl _) rfl (Nat.le_of_ble_eq_true rfl) dX10_image_18 21 rfl (fun v18 W18 hp18 => ?_)
    obtain ⟨R18, rfl, rfl, hl18⟩ := hp18
    show G X 1 0 0 (mW cI q f R18) [(0, .ref (q 0))] 21 []
    refine zg_aload_n hX 0 rfl dX10_image_21 rfl 22 rfl ?_
    refine mg_0_15 hX mw_656 dX10_image_22 25 rfl ?_
    refine zg_aload_n hX 0 rfl dX10_image_25 rfl 26 rfl ?_
    refine mg_0_31 hX mw_672 dX10_image_26 29 rfl ?_
    refine zg_callS (As := [.ref (q 5), .ref (q 13)]) (rest := []) hX (c_X10_copy_4_12 l D cI q f R18) mw_774 mw_775 mw_10 mw_776 sg_X10_copy.2 (by decide) (by decide) (Nat.le_refl _) (Nat.le_refl _) rfl (Nat.le_of_ble_eq_true rfl) dX10_image_29 32 rfl (fun v29 W29 hp29 => ?_)
    obtain ⟨R29, rfl, rfl, hl29⟩ := hp29
    show G X 1 0 0 (mW cI q f R29) [(0, .ref (q 0))] 32 []
    refine zg_aload_n hX 0 rfl dX10_image_32 rfl 33 rfl ?_
    refine zg_aload_n hX 0 rfl dX10_image_33 rfl 34 rfl ?_
    refine mg_0_12 hX mw_653 (en (sE σ) : Int) h.2.2.1.1 dX10_image_34 37 rfl ?_
    refine mp_0_26 hX mw_667 dX10_image_37 40 rfl ?_
    refine zg_aload_n hX 0 rfl dX10_image_40 rfl 41 rfl ?_
    refine zg_aload_n hX 0 rfl dX10_image_41 rfl 42 rfl ?_
    refine mg_0_8 hX mw_649 (ep (sE σ) : Int) h.2.2.1.2.1 dX10_image_42 45 rfl ?_
    refine mp_0_27 hX mw_668 dX10_image_45 48 rfl ?_
    refine zg_aload_n hX 0 rfl dX10_image_48 rfl 49 rfl ?_
    refine zg_aload_n hX 0 rfl dX10_image_49 rfl 50 rfl ?_
    refine mg_0_9 hX mw_650 (es (sE σ) : Int) h.2.2.1.2.2.1 dX10_image_50 53 rfl ?_
    refine mp_0_28 hX mw_669 dX10_image_53 56 rfl ?_
    refine zg_aload_n hX 0 rfl dX10_image_56 rfl 57 rfl ?_
    refine zg_aload_n hX 0 rfl dX10_image_57 rfl 58 rfl ?_
    refine mg_0_14 hX mw_655 (eT (sE σ) : Int) h.2.2.1.2.2.2.1 dX10_image_58 61 rfl ?_
    refine mp_0_29 hX mw_670 dX10_image_61 64 rfl ?_
    refine zg_aload_n hX 0 rfl dX10_image_64 rfl 65 rfl ?_
    refine zg_aload_n hX 0 rfl dX10_image_65 rfl 66 rfl ?_
    refine mg_0_10 hX mw_651 (s1 σ : Int) h.2.2.2.2.1 dX10_image_66 69 rfl ?_
    refine mp_0_25 hX mw_666 dX10_image_69 72 rfl ?_
    refine zg_aload_n hX 0 rfl dX10_image_72 rfl 73 rfl ?_
    refine mg_0_8 hX mw_649 (ep (sE σ) : Int) h.2.2.1.2.1 dX10_image_73 76 rfl ?_
    exact zg_iret hX hR (Nat.le_refl _) (Nat.le_refl _) rfl dX10_image_76 (qM_ret (by unfold o_image; rw [if_neg (by omega)]) (m_image h hn4 hT6 hl18 hl29))
  · have hlk := of_decide_eq_true h4
    refine zg_bipush hX dX10_image_7 9 rfl (by decide) ?_
    exact zg_iret hX hR (Nat.le_refl _) (Nat.le_refl _) rfl dX10_image_9 (qM_ret (by unfold o_image; rw [if_pos (by omega)]) h)
-- Model.restore
set_option maxRecDepth 20000 in
theorem c_X10_restore (l : Launch) (D : va_G) (cI : ClassId) (q : Nat → Nat) (f : Nat → Int) (r : Nat → Nat → Int) (σ : Sg) (B : Nat)  (hσ : sOK σ B) (hB : B ≤ 100) (h : MRel f r σ) : Cn l D cI yX10_restore cX10_restore 1 (some .int) 1 0 0 [.ref (q 0)] (mW cI q f r) (qM cI q (o_restore σ)) := by
  refine Cn.of [(0, .ref (q 0))] (by decide +kernel) (Nat.le_of_ble_eq_true rfl) rfl (fun X hX hR => ?_)
  have hsl := hσ.1
  have hg6 := hσ.2.1
  have hP := hσ.2.2.1
  have hE := hσ.2.2.2.1
  have hpb6 := hP.1
  have hpL9 := hP.2.1
  have hn4 := hE.1
  have hT6 := hE.2.2.2.2.1
  have hep := hE.2.2.2.2.2.2.2
  have hbk := hE.2.2.2.2.2.2.1
  have hs1 := hσ.2.2.2.2.2.1
  have hs2 := hσ.2.2.2.2.2.2.1
  have hs3 := hσ.2.2.2.2.2.2.2.1
  have hbd := hσ.2.2.2.2.2.2.2.2.1
  have hρ : RuOK (sr σ) := rho_OK hP hE
  have ht : tk (sr σ) (st σ) := rho_tk hE
  have hrb : rb (sr σ) = pb (sP σ) := rfl
  have hrn : rn (sr σ) = en (sE σ) := rfl
  have hrl : rl (sr σ) = pL (sP σ) := rfl
  have hm : mR f r (sr σ) := mR_of h.2.1 h.2.2.1
  have hk14 := h.2.2.2.2.2.2.2
  refine zg_aload_n hX 0 rfl dX10_restore_0 rfl 1 rfl ?_
  refine mg_0_25 hX mw_666 (f 14) rfl dX10_restore_1 4 rfl ?_
  refine zg_aload_n hX 0 rfl dX10_restore_4 rfl 5 rfl ?_
  refine mg_0_10 hX mw_651 (s1 σ : Int) h.2.2.2.2.1 dX10_restore_5 8 rfl ?_
  refine zg_icmp_eq hX (by omega) (by omega) dX10_restore_8 14 (by decide) 11 rfl (fun h8 => ?_) (fun h8 => ?_)
  · have hsk : sk σ = true := hk14.2.2.1 h8
    refine zg_aload_n hX 0 rfl dX10_restore_14 rfl 15 rfl ?_
    refine mg_0_30 hX mw_671 dX10_restore_15 18 rfl ?_
    refine zg_aload_n hX 0 rfl dX10_restore_18 rfl 19 rfl ?_
    refine mg_0_13 hX mw_654 dX10_restore_19 22 rfl ?_
    refine zg_callS (As := [.ref (q 12), .ref (q 4)]) (rest := []) hX (c_X10_copy_11_3 l D cI q f r) mw_774 mw_775 mw_10 mw_776 sg_X10_copy.2 (by decide) (by decide) (Nat.le_refl _) (Nat.le_refl _) rfl (Nat.le_of_ble_eq_true rfl) dX10_restore_22 25 rfl (fun v22 W22 hp22 => ?_)
    obtain ⟨R22, rfl, rfl, hl22⟩ := hp22
    show G X 1 0 0 (mW cI q f R22) [(0, .ref (q 0))] 25 []
    refine zg_aload_n hX 0 rfl dX10_restore_25 rfl 26 rfl ?_
    refine mg_0_31 hX mw_672 dX10_restore_26 29 rfl ?_
    refine zg_aload_n hX 0 rfl dX10_restore_29 rfl 30 rfl ?_
    refine mg_0_15 hX mw_656 dX10_restore_30 33 rfl ?_
    refine zg_callS (As := [.ref (q 13), .ref (q 5)]) (rest := []) hX (c_X10_copy_12_4 l D cI q f R22) mw_774 mw_775 mw_10 mw_776 sg_X10_copy.2 (by decide) (by decide) (Nat.le_refl _) (Nat.le_refl _) rfl (Nat.le_of_ble_eq_true rfl) dX10_restore_33 36 rfl (fun v33 W33 hp33 => ?_)
    obtain ⟨R33, rfl, rfl, hl33⟩ := hp33
    show G X 1 0 0 (mW cI q f R33) [(0, .ref (q 0))] 36 []
    refine zg_aload_n hX 0 rfl dX10_restore_36 rfl 37 rfl ?_
    refine zg_aload_n hX 0 rfl dX10_restore_37 rfl 38 rfl ?_
    refine mg_0_26 hX mw_667 (en (sK σ) : Int) ((h.2.2.2.1 hsk).1) dX10_restore_38 41 rfl ?_
    refine mp_0_12 hX mw_653 dX10_restore_41 44 rfl ?_
    refine zg_aload_n hX 0 rfl dX10_restore_44 rfl 45 rfl ?_
    refine zg_aload_n hX 0 rfl dX10_restore_45 rfl 46 rfl ?_
    refine mg_0_27 hX mw_668 (ep (sK σ) : Int) ((h.2.2.2.1 hsk).2.1) dX10_restore_46 49 rfl ?_
    refine mp_0_8 hX mw_649 dX10_restore_49 52 rfl ?_
    refine zg_aload_n hX 0 rfl dX10_restore_52 rfl 53 rfl ?_
    refine zg_aload_n hX 0 rfl dX10_restore_53 rfl 54 rfl ?_
    refine mg_0_28 hX mw_669 (es (sK σ) : Int) ((h.2.2.2.1 hsk).2.2.1) dX10_restore_54 57 rfl ?_
    refine mp_0_9 hX mw_650 dX10_restore_57 60 rfl ?_
    refine zg_aload_n hX 0 rfl dX10_restore_60 rfl 61 rfl ?_
    refine zg_aload_n hX 0 rfl dX10_restore_61 rfl 62 rfl ?_
    refine mg_0_29 hX mw_670 (eT (sK σ) : Int) ((h.2.2.2.1 hsk).2.2.2.1) dX10_restore_62 65 rfl ?_
    refine mp_0_14 hX mw_655 dX10_restore_65 68 rfl ?_
    refine zg_aload_n hX 0 rfl dX10_restore_68 rfl 69 rfl ?_
    refine mg_0_8 hX mw_649 (ep (sK σ) : Int) rfl dX10_restore_69 72 rfl ?_
    exact zg_iret hX hR (Nat.le_refl _) (Nat.le_refl _) rfl dX10_restore_72 (qM_ret (by unfold o_restore; rw [if_pos hsk]) (m_restore h hsk ((hσ.2.2.2.2.1 hsk).1) ((hσ.2.2.2.2.1 hsk).2.2.2.2.1) hl22 hl33))
  · have hsk : ¬ sk σ = true := fun e => h8 (hk14.2.2.2 e)
    refine zg_bipush hX dX10_restore_11 13 rfl (by decide) ?_
    exact zg_iret hX hR (Nat.le_refl _) (Nat.le_refl _) rfl dX10_restore_13 (qM_ret (by unfold o_restore; rw [if_neg hsk]) h)
-- Model.countOf
set_option maxRecDepth 20000 in
theorem c_X10_countOf (l : Launch) (D : va_G) (cI : ClassId) (q : Nat → Nat) (f : Nat → Int) (r : Nat → Nat → Int) (σ : Sg) (B : Nat) (w : Int) (hσ : sOK σ B) (hB : B ≤ 100) (h : MRel f r σ) (hw : -2147483648 ≤ w ∧ w < 2147483648) : Cn l D cI yX10_countOf cX10_countOf 6 (some .int) 4 0 0 [.ref (q 0), .int (zI w)] (mW cI q f r) (pR (mW cI q f) (fun v r1 => v = some (.int (zI (if 0 ≤ w ∧ w ≤ 12 then cntA σ w else -102))) ∧ frR r r1)) := by
  refine Cn.of [(0, .ref (q 0)), (1, .int (zI w))] (by decide +kernel) (Nat.le_of_ble_eq_true rfl) rfl (fun X hX hR => ?_)
  have hsl := hσ.1
  have hg6 := hσ.2.1
  have hP := hσ.2.2.1
  have hE := hσ.2.2.2.1
  have hpb6 := hP.1
  have hpL9 := hP.2.1
  have hn4 := hE.1
  have hT6 := hE.2.2.2.2.1
  have hep := hE.2.2.2.2.2.2.2
  have hbk := hE.2.2.2.2.2.2.1
  have hs1 := hσ.2.2.2.2.2.1
  have hs2 := hσ.2.2.2.2.2.2.1
  have hs3 := hσ.2.2.2.2.2.2.2.1
  have hbd := hσ.2.2.2.2.2.2.2.2.1
  have hρ : RuOK (sr σ) := rho_OK hP hE
  have ht : tk (sr σ) (st σ) := rho_tk hE
  have hrb : rb (sr σ) = pb (sP σ) := rfl
  have hrn : rn (sr σ) = en (sE σ) := rfl
  have hrl : rl (sr σ) = pL (sP σ) := rfl
  have hm : mR f r (sr σ) := mR_of h.2.1 h.2.2.1
  refine zg_aload_n hX 0 rfl dX10_countOf_0 rfl 1 rfl ?_
  refine zg_callV (As := []) (rest := []) (k0 := 0) (ci := 9) hX (c_X10_asItIs l D cI q f r (sr σ) hρ (mR_of h.2.1 h.2.2.1)) mw_797 mw_799 mw_s17 mw_10 mw_800 sg_X10_asItIs (by decide) (by decide) (Nat.le_refl _) (Nat.le_refl _) rfl rfl rfl (Nat.le_of_ble_eq_true rfl) dX10_countOf_1 4 rfl (fun v1 W1 hp1 => ?_)
  obtain ⟨R1, rfl, rfl, hl1⟩ := hp1
  show G X 6 0 0 (mW cI q f R1) [(0, .ref (q 0)), (1, .int (zI w))] 4 []
  have hx1 : frR r R1 := frR_lay hl1 (by omega)
  have hr1 : MRel f R1 σ := MRel_r h hx1
  have hn1 : ∀ p, p < rn (sr σ) → R1 5 p = (st σ p : Int) := fun p hp => (hl1.2 p hp).trans (h.2.2.1.2.2.2.2.2.1 p hp)
  have hm1 : mR f R1 (sr σ) := mR_of hr1.2.1 hr1.2.2.1
  refine zg_iconst hX dX10_countOf_4 5 rfl ?_
  refine zg_istore_n hX [(2, .int (zI 0)), (0, .ref (q 0)), (1, .int (zI w))] dX10_countOf_5 rfl (by decide) rfl 6 rfl ?_
  refine zg_iconst hX dX10_countOf_6 7 rfl ?_
  refine zg_istore_n hX [(3, .int (zI 0)), (2, .int (zI 0)), (0, .ref (q 0)), (1, .int (zI w))] dX10_countOf_7 rfl (by decide) rfl 8 rfl ?_
  refine zg_iconst hX dX10_countOf_8 9 rfl ?_
  refine zg_istore hX [(4, .int (zI 0)), (3, .int (zI 0)), (2, .int (zI 0)), (0, .ref (q 0)), (1, .int (zI w))] dX10_countOf_9 (by decide) rfl 11 rfl ?_
  refine zg_iconst hX dX10_countOf_11 12 rfl ?_
  refine zg_istore hX [(5, .int (zI 0)), (4, .int (zI 0)), (3, .int (zI 0)), (2, .int (zI 0)), (0, .ref (q 0)), (1, .int (zI w))] dX10_countOf_12 (by decide) rfl 14 rfl ?_
  have L14 : ∀ (fuel : Nat) (i : Nat) (x14_2 : Int) (x14_3 : Int) (x14_4 : Int) (x14_5 : Int), (en (sE σ) - i < fuel) → (i ≤ en (sE σ)) → x14_2 = ((su (fun p => if aw (sr σ) (st σ) p then 1 else 0) i : Nat) : Int) → x14_3 = ((su (fun p => if he (sr σ) (st σ) p then 1 else 0) i : Nat) : Int) → x14_4 = ((su (ec (sE σ)) i : Nat) : Int) → x14_5 = (i : Int) → G X 6 0 0 (mW cI q f R1) [(0, .ref (q 0)), (1, .int (zI w)), (2, .int (zI x14_2)), (3, .int (zI x14_3)), (4, .int (zI x14_4)), (5, .int (zI x14_5))] 14 [] := by
    intro fuel
    induction fuel with
    | zero =>
      intro i x14_2 x14_3 x14_4 x14_5 hm14
      exact absurd hm14 (Nat.not_lt_zero _)
    | succ fuel ih14 =>
      intro i x14_2 x14_3 x14_4 x14_5 hm14 hi ex14_2 ex14_3 ex14_4 ex14_5
      subst ex14_2
      subst ex14_3
      subst ex14_4
      subst ex14_5
      refine zg_iload hX 5 rfl dX10_countOf_14 16 rfl ?_
      refine zg_aload_n hX 0 rfl dX10_countOf_16 rfl 17 rfl ?_
      refine mg_0_12 hX mw_653 (en (sE σ) : Int) h.2.2.1.1 dX10_countOf_17 20 rfl ?_
      refine zg_icmp_ge hX (by omega) (by omega) dX10_countOf_20 79 (by decide) 23 rfl (fun h20 => ?_) (fun h20 => ?_)
      · refine zg_iload_n hX 1 rfl dX10_countOf_79 rfl 80 rfl ?_
        rcases (show w = 0 ∨ w = 1 ∨ w = 2 ∨ w = 3 ∨ w = 4 ∨ w = 5 ∨ w = 6 ∨ w = 7 ∨ w = 8 ∨ w = 9 ∨ w = 10 ∨ w = 11 ∨ w = 12 ∨ (w < 0 ∨ 12 < w) from by omega) with hs80 | hs80 | hs80 | hs80 | hs80 | hs80 | hs80 | hs80 | hs80 | hs80 | hs80 | hs80 | hs80 | hs80
        · refine zg_tableIn hX (by omega) dX10_countOf_80 (by omega) (by omega) 0 (by omega) rfl 148 (by decide) ?_
          refine zg_aload_n hX 0 rfl dX10_countOf_148 rfl 149 rfl ?_
          refine mg_0_6 hX mw_647 (pb (sP σ) : Int) h.2.1.1 dX10_countOf_149 152 rfl ?_
          exact zg_iret hX hR (Nat.le_refl _) (Nat.le_refl _) rfl dX10_countOf_152 (⟨R1, rfl, by rw [if_pos (by omega), hs80]; rfl, hx1⟩)
        · refine zg_tableIn hX (by omega) dX10_countOf_80 (by omega) (by omega) 1 (by omega) rfl 153 (by decide) ?_
          refine zg_aload_n hX 0 rfl dX10_countOf_153 rfl 154 rfl ?_
          refine mg_0_7 hX mw_648 (pL (sP σ) : Int) h.2.1.2.1 dX10_countOf_154 157 rfl ?_
          exact zg_iret hX hR (Nat.le_refl _) (Nat.le_refl _) rfl dX10_countOf_157 (⟨R1, rfl, by rw [if_pos (by omega), hs80]; rfl, hx1⟩)
        · refine zg_tableIn hX (by omega) dX10_countOf_80 (by omega) (by omega) 2 (by omega) rfl 158 (by decide) ?_
          refine zg_aload_n hX 0 rfl dX10_countOf_158 rfl 159 rfl ?_
          refine mg_0_12 hX mw_653 (en (sE σ) : Int) h.2.2.1.1 dX10_countOf_159 162 rfl ?_
          exact zg_iret hX hR (Nat.le_refl _) (Nat.le_refl _) rfl dX10_countOf_162 (⟨R1, rfl, by rw [if_pos (by omega), hs80]; rfl, hx1⟩)
        · refine zg_tableIn hX (by omega) dX10_countOf_80 (by omega) (by omega) 3 (by omega) rfl 163 (by decide) ?_
          refine zg_iload_n hX 2 rfl dX10_countOf_163 rfl 164 rfl ?_
          exact zg_iret hX hR (Nat.le_refl _) (Nat.le_refl _) rfl dX10_countOf_164 (⟨R1, rfl, by rw [if_pos (by omega), hs80]; show _ = some (Value.int (zI ((cw (aw (sr σ) (st σ)) : Nat) : Int))); unfold cw; rw [cu_more (n := en (sE σ)) (fun p hp => aw_out hp) 4 (by omega), show i = en (sE σ) by omega], hx1⟩)
        · refine zg_tableIn hX (by omega) dX10_countOf_80 (by omega) (by omega) 4 (by omega) rfl 165 (by decide) ?_
          refine zg_iload_n hX 3 rfl dX10_countOf_165 rfl 166 rfl ?_
          exact zg_iret hX hR (Nat.le_refl _) (Nat.le_refl _) rfl dX10_countOf_166 (⟨R1, rfl, by rw [if_pos (by omega), hs80]; show _ = some (Value.int (zI ((cw (he (sr σ) (st σ)) : Nat) : Int))); unfold cw; rw [cu_more (n := en (sE σ)) (fun p hp => he_out hp) 4 (by omega), show i = en (sE σ) by omega], hx1⟩)
        · refine zg_tableIn hX (by omega) dX10_countOf_80 (by omega) (by omega) 5 (by omega) rfl 167 (by decide) ?_
          refine zg_aload_n hX 0 rfl dX10_countOf_167 rfl 168 rfl ?_
          refine mg_0_8 hX mw_649 (ep (sE σ) : Int) h.2.2.1.2.1 dX10_countOf_168 171 rfl ?_
          exact zg_iret hX hR (Nat.le_refl _) (Nat.le_refl _) rfl dX10_countOf_171 (⟨R1, rfl, by rw [if_pos (by omega), hs80]; rfl, hx1⟩)
        · refine zg_tableIn hX (by omega) dX10_countOf_80 (by omega) (by omega) 6 (by omega) rfl 172 (by decide) ?_
          refine zg_aload_n hX 0 rfl dX10_countOf_172 rfl 173 rfl ?_
          refine mg_0_9 hX mw_650 (es (sE σ) : Int) h.2.2.1.2.2.1 dX10_countOf_173 176 rfl ?_
          exact zg_iret hX hR (Nat.le_refl _) (Nat.le_refl _) rfl dX10_countOf_176 (⟨R1, rfl, by rw [if_pos (by omega), hs80]; rfl, hx1⟩)
        · refine zg_tableIn hX (by omega) dX10_countOf_80 (by omega) (by omega) 7 (by omega) rfl 177 (by decide) ?_
          refine zg_iload hX 4 rfl dX10_countOf_177 179 rfl ?_
          exact zg_iret hX hR (Nat.le_refl _) (Nat.le_refl _) rfl dX10_countOf_179 (⟨R1, rfl, by rw [if_pos (by omega), hs80]; show _ = some (Value.int (zI ((su (ec (sE σ)) (en (sE σ)) : Nat) : Int))); rw [show i = en (sE σ) by omega], hx1⟩)
        · refine zg_tableIn hX (by omega) dX10_countOf_80 (by omega) (by omega) 8 (by omega) rfl 180 (by decide) ?_
          refine zg_aload_n hX 0 rfl dX10_countOf_180 rfl 181 rfl ?_
          refine mg_0_14 hX mw_655 (eT (sE σ) : Int) h.2.2.1.2.2.2.1 dX10_countOf_181 184 rfl ?_
          exact zg_iret hX hR (Nat.le_refl _) (Nat.le_refl _) rfl dX10_countOf_184 (⟨R1, rfl, by rw [if_pos (by omega), hs80]; rfl, hx1⟩)
        · refine zg_tableIn hX (by omega) dX10_countOf_80 (by omega) (by omega) 9 (by omega) rfl 185 (by decide) ?_
          refine zg_aload_n hX 0 rfl dX10_countOf_185 rfl 186 rfl ?_
          refine mg_0_1 hX mw_642 (sl σ : Int) h.1.1 dX10_countOf_186 189 rfl ?_
          exact zg_iret hX hR (Nat.le_refl _) (Nat.le_refl _) rfl dX10_countOf_189 (⟨R1, rfl, by rw [if_pos (by omega), hs80]; rfl, hx1⟩)
        · refine zg_tableIn hX (by omega) dX10_countOf_80 (by omega) (by omega) 10 (by omega) rfl 190 (by decide) ?_
          refine zg_aload_n hX 0 rfl dX10_countOf_190 rfl 191 rfl ?_
          refine mg_0_10 hX mw_651 (s1 σ : Int) h.2.2.2.2.1 dX10_countOf_191 194 rfl ?_
          exact zg_iret hX hR (Nat.le_refl _) (Nat.le_refl _) rfl dX10_countOf_194 (⟨R1, rfl, by rw [if_pos (by omega), hs80]; rfl, hx1⟩)
        · refine zg_tableIn hX (by omega) dX10_countOf_80 (by omega) (by omega) 11 (by omega) rfl 195 (by decide) ?_
          refine zg_aload_n hX 0 rfl dX10_countOf_195 rfl 196 rfl ?_
          refine mg_0_19 hX mw_660 (s2 σ : Int) h.2.2.2.2.2.1 dX10_countOf_196 199 rfl ?_
          exact zg_iret hX hR (Nat.le_refl _) (Nat.le_refl _) rfl dX10_countOf_199 (⟨R1, rfl, by rw [if_pos (by omega), hs80]; rfl, hx1⟩)
        · refine zg_tableIn hX (by omega) dX10_countOf_80 (by omega) (by omega) 12 (by omega) rfl 200 (by decide) ?_
          refine zg_aload_n hX 0 rfl dX10_countOf_200 rfl 201 rfl ?_
          refine mg_0_20 hX mw_661 (s3 σ : Int) h.2.2.2.2.2.2.1 dX10_countOf_201 204 rfl ?_
          exact zg_iret hX hR (Nat.le_refl _) (Nat.le_refl _) rfl dX10_countOf_204 (⟨R1, rfl, by rw [if_pos (by omega), hs80]; rfl, hx1⟩)
        · refine zg_tableOut hX (by omega) dX10_countOf_80 (by omega) 205 (by decide) ?_
          refine zg_bipush hX dX10_countOf_205 207 rfl (by decide) ?_
          exact zg_iret hX hR (Nat.le_refl _) (Nat.le_refl _) rfl dX10_countOf_207 (⟨R1, rfl, by rw [if_neg (by omega)], hx1⟩)
      · refine zg_iload_n hX 2 rfl dX10_countOf_23 rfl 24 rfl ?_
        refine zg_aload_n hX 0 rfl dX10_countOf_24 rfl 25 rfl ?_
        refine zg_iload hX 5 rfl dX10_countOf_25 27 rfl ?_
        refine zg_callVi (As := [.int (zI (i : Int))]) (rest := [.int (zI ((su (fun p => if aw (sr σ) (st σ) p then 1 else 0) i : Nat) : Int))]) (k0 := 0) (ci := 9) hX (c_X10_isAwake l D cI q f R1 (sr σ) (st σ) (i : Int) hρ hm1 hn1 ht (by omega)) mw_817 mw_819 mw_s22 mw_10 mw_820 sg_X10_isAwake (by decide) (by decide) (Nat.le_refl _) (Nat.le_refl _) rfl rfl rfl (Nat.le_of_ble_eq_true rfl) dX10_countOf_27 30 rfl ?_
        have J38 : ∀ xj : Int, xj = ((if aw (sr σ) (st σ) i then 1 else 0 : Nat) : Int) → G X 6 0 0 (mW cI q f R1) [(0, .ref (q 0)), (1, .int (zI w)), (2, .int (zI ((su (fun p => if aw (sr σ) (st σ) p then 1 else 0) i : Nat) : Int))), (3, .int (zI ((su (fun p => if he (sr σ) (st σ) p then 1 else 0) i : Nat) : Int))), (4, .int (zI ((su (ec (sE σ)) i : Nat) : Int))), (5, .int (zI (i : Int)))] 38 [.int (zI xj), .int (zI ((su (fun p => if aw (sr σ) (st σ) p then 1 else 0) i : Nat) : Int))] := by
          intro xj hx38
          subst hx38
          refine zg_iadd hX dX10_countOf_38 39 rfl ?_
          refine zg_istore_n hX [(2, .int (zI (((su (fun p => if aw (sr σ) (st σ) p then 1 else 0) i : Nat) : Int) + ((if aw (sr σ) (st σ) i then 1 else 0 : Nat) : Int)))), (0, .ref (q 0)), (1, .int (zI w)), (3, .int (zI ((su (fun p => if he (sr σ) (st σ) p then 1 else 0) i : Nat) : Int))), (4, .int (zI ((su (ec (sE σ)) i : Nat) : Int))), (5, .int (zI (i : Int)))] dX10_countOf_39 rfl (by decide) rfl 40 rfl ?_
          refine zg_iload_n hX 3 rfl dX10_countOf_40 rfl 41 rfl ?_
          refine zg_aload_n hX 1 rfl dX10_countOf_41 rfl 42 rfl ?_
          refine zg_iload hX 5 rfl dX10_countOf_42 44 rfl ?_
          refine zg_callVi (As := [.int (zI (i : Int))]) (rest := [.int (zI ((su (fun p => if he (sr σ) (st σ) p then 1 else 0) i : Nat) : Int))]) (k0 := 0) (ci := 9) hX (c_X10_isHeard l D cI q f R1 (sr σ) (st σ) i hρ hm1 hn1 ht (by omega)) mw_813 mw_815 mw_s21 mw_10 mw_816 sg_X10_isHeard (by decide) (by decide) (Nat.le_refl _) (Nat.le_refl _) rfl rfl rfl (Nat.le_of_ble_eq_true rfl) dX10_countOf_44 47 rfl ?_
          have J55 : ∀ xj : Int, xj = ((if he (sr σ) (st σ) i then 1 else 0 : Nat) : Int) → G X 6 0 0 (mW cI q f R1) [(2, .int (zI (((su (fun p => if aw (sr σ) (st σ) p then 1 else 0) i : Nat) : Int) + ((if aw (sr σ) (st σ) i then 1 else 0 : Nat) : Int)))), (0, .ref (q 0)), (1, .int (zI w)), (3, .int (zI ((su (fun p => if he (sr σ) (st σ) p then 1 else 0) i : Nat) : Int))), (4, .int (zI ((su (ec (sE σ)) i : Nat) : Int))), (5, .int (zI (i : Int)))] 55 [.int (zI xj), .int (zI ((su (fun p => if he (sr σ) (st σ) p then 1 else 0) i : Nat) : Int))] := by
            intro xj hx55
            subst hx55
            refine zg_iadd hX dX10_countOf_55 56 rfl ?_
            refine zg_istore_n hX [(3, .int (zI (((su (fun p => if he (sr σ) (st σ) p then 1 else 0) i : Nat) : Int) + ((if he (sr σ) (st σ) i then 1 else 0 : Nat) : Int)))), (2, .int (zI (((su (fun p => if aw (sr σ) (st σ) p then 1 else 0) i : Nat) : Int) + ((if aw (sr σ) (st σ) i then 1 else 0 : Nat) : Int)))), (0, .ref (q 0)), (1, .int (zI w)), (4, .int (zI ((su (ec (sE σ)) i : Nat) : Int))), (5, .int (zI (i : Int)))] dX10_countOf_56 rfl (by decide) rfl 57 rfl ?_
            refine zg_iload hX 4 rfl dX10_countOf_57 59 rfl ?_
            refine zg_aload_n hX 2 rfl dX10_countOf_59 rfl 60 rfl ?_
            refine mg_0_13 hX mw_654 dX10_countOf_60 63 rfl ?_
            refine zg_iconst hX dX10_countOf_63 64 rfl ?_
            refine zg_iload hX 5 rfl dX10_countOf_64 66 rfl ?_
            refine zg_imul hX dX10_countOf_66 67 rfl ?_
            refine zg_iconst hX dX10_countOf_67 68 rfl ?_
            refine zg_iadd hX dX10_countOf_68 69 rfl ?_
            refine ma_4 hX (4 * i + 3) (ec (sE σ) i : Int) (by omega) (by omega) (hr1.2.2.1.2.2.2.2.2.2.2.1 i (by omega)) dX10_countOf_69 70 rfl ?_
            refine zg_iadd hX dX10_countOf_70 71 rfl ?_
            refine zg_istore hX [(4, .int (zI (((su (ec (sE σ)) i : Nat) : Int) + (ec (sE σ) i : Int)))), (3, .int (zI (((su (fun p => if he (sr σ) (st σ) p then 1 else 0) i : Nat) : Int) + ((if he (sr σ) (st σ) i then 1 else 0 : Nat) : Int)))), (2, .int (zI (((su (fun p => if aw (sr σ) (st σ) p then 1 else 0) i : Nat) : Int) + ((if aw (sr σ) (st σ) i then 1 else 0 : Nat) : Int)))), (0, .ref (q 0)), (1, .int (zI w)), (5, .int (zI (i : Int)))] dX10_countOf_71 (by decide) rfl 73 rfl ?_
            refine zg_iinc hX [(5, .int (zI ((i : Int) + 1))), (4, .int (zI (((su (ec (sE σ)) i : Nat) : Int) + (ec (sE σ) i : Int)))), (3, .int (zI (((su (fun p => if he (sr σ) (st σ) p then 1 else 0) i : Nat) : Int) + ((if he (sr σ) (st σ) i then 1 else 0 : Nat) : Int)))), (2, .int (zI (((su (fun p => if aw (sr σ) (st σ) p then 1 else 0) i : Nat) : Int) + ((if aw (sr σ) (st σ) i then 1 else 0 : Nat) : Int)))), (0, .ref (q 0)), (1, .int (zI w))] 5 rfl dX10_countOf_73 (by decide) rfl 76 rfl ?_
            refine zg_goto hX dX10_countOf_76 14 (by decide) ?_
            exact zg_lv _ [4, 5, 3, 2, 1, 0] rfl (ih14 (i + 1) _ _ _ _ (by omega) (by omega) ((Int.natCast_add _ _).symm) ((Int.natCast_add _ _).symm) ((Int.natCast_add _ _).symm) (by omega))
          refine zg_ifb_eq hX dX10_countOf_47 54 (by decide) 50 rfl (fun h47 => ?_) (fun h47 => ?_)
          · refine zg_iconst hX dX10_countOf_54 55 rfl ?_
            exact J55 _ (by rw [h47]; rfl)
          · refine zg_iconst hX dX10_countOf_50 51 rfl ?_
            refine zg_goto hX dX10_countOf_51 55 (by decide) ?_
            exact J55 _ (by rw [h47]; rfl)
        refine zg_ifb_eq hX dX10_countOf_30 37 (by decide) 33 rfl (fun h30 => ?_) (fun h30 => ?_)
        · have hres : aw (sr σ) (st σ) i = false := by rw [show ((i : Int)).toNat = i by omega] at h30; simpa using h30
          refine zg_iconst hX dX10_countOf_37 38 rfl ?_
          exact J38 _ (by rw [hres]; rfl)
        · have hres : aw (sr σ) (st σ) i = true := by rw [show ((i : Int)).toNat = i by omega] at h30; simpa using h30
          refine zg_iconst hX dX10_countOf_33 34 rfl ?_
          refine zg_goto hX dX10_countOf_34 38 (by decide) ?_
          exact J38 _ (by rw [hres]; rfl)
  exact zg_lv _ [4, 5, 3, 2, 1, 0] rfl (L14 _ 0 _ _ _ _ (Nat.lt_succ_self _) (by omega) (rfl) (rfl) (rfl) (rfl))
-- Model.count
set_option maxRecDepth 20000 in
theorem c_X10_count (l : Launch) (D : va_G) (cI : ClassId) (q : Nat → Nat) (f : Nat → Int) (r : Nat → Nat → Int) (σ : Sg) (B : Nat) (a : Int) (hσ : sOK σ B) (hB : B ≤ 100) (h : MRel f r σ) (ha : -2147483648 ≤ a ∧ a < 2147483648) : Cn l D cI yX10_count cX10_count 2 (some .int) 5 0 0 [.ref (q 0), .int (zI a)] (mW cI q f r) (qM cI q (o_count σ a)) := by
  refine Cn.of [(0, .ref (q 0)), (1, .int (zI a))] (by decide +kernel) (Nat.le_of_ble_eq_true rfl) rfl (fun X hX hR => ?_)
  have hsl := hσ.1
  have hg6 := hσ.2.1
  have hP := hσ.2.2.1
  have hE := hσ.2.2.2.1
  have hpb6 := hP.1
  have hpL9 := hP.2.1
  have hn4 := hE.1
  have hT6 := hE.2.2.2.2.1
  have hep := hE.2.2.2.2.2.2.2
  have hbk := hE.2.2.2.2.2.2.1
  have hs1 := hσ.2.2.2.2.2.1
  have hs2 := hσ.2.2.2.2.2.2.1
  have hs3 := hσ.2.2.2.2.2.2.2.1
  have hbd := hσ.2.2.2.2.2.2.2.2.1
  have hρ : RuOK (sr σ) := rho_OK hP hE
  have ht : tk (sr σ) (st σ) := rho_tk hE
  have hrb : rb (sr σ) = pb (sP σ) := rfl
  have hrn : rn (sr σ) = en (sE σ) := rfl
  have hrl : rl (sr σ) = pL (sP σ) := rfl
  have hm : mR f r (sr σ) := mR_of h.2.1 h.2.2.1
  refine zg_aload_n hX 0 rfl dX10_count_0 rfl 1 rfl ?_
  refine zg_iload_n hX 1 rfl dX10_count_1 rfl 2 rfl ?_
  refine zg_callV (As := [.int (zI a)]) (rest := []) (k0 := 0) (ci := 9) hX (c_X10_countOf l D cI q f r σ B a hσ hB h ha) mw_968 mw_970 mw_s40 mw_10 mw_971 sg_X10_countOf (by decide) (by decide) (Nat.le_refl _) (Nat.le_refl _) rfl rfl rfl (Nat.le_of_ble_eq_true rfl) dX10_count_2 5 rfl (fun v2 W2 hp2 => ?_)
  obtain ⟨R2, rfl, rfl, hf2⟩ := hp2
  show G X 2 0 0 (mW cI q f R2) [(0, .ref (q 0)), (1, .int (zI a))] 5 [.int (zI (if 0 ≤ a ∧ a ≤ 12 then cntA σ a else -102))]
  exact zg_iret hX hR (Nat.le_refl _) (Nat.le_refl _) rfl dX10_count_5 (qM_ret rfl (MRel_r h hf2))
-- Model.say
set_option maxRecDepth 20000 in
theorem c_X10_say (l : Launch) (D : va_G) (cI : ClassId) (q : Nat → Nat) (f : Nat → Int) (r : Nat → Nat → Int) (x : Int)  : Cn l D cI yX10_say cX10_say 3 none 0 0 0 [.ref (q 0), .long (zL x)] (mW cI q f r) (pW none (mW cI q (pu f 19 (31 * f 19 + x)) r)) := by
  refine Cn.of [(0, .ref (q 0)), (1, .long (zL x))] (by decide +kernel) (Nat.le_of_ble_eq_true rfl) rfl (fun X hX hR => ?_)
  refine zg_aload_n hX 0 rfl dX10_say_0 rfl 1 rfl ?_
  refine zg_ldc2 (a := 31) hX mw_981 (by decide) dX10_say_1 4 rfl ?_
  refine zg_aload_n hX 0 rfl dX10_say_4 rfl 5 rfl ?_
  refine mg_0_32 hX mw_673 (f 19) rfl dX10_say_5 8 rfl ?_
  refine zg_lmul hX dX10_say_8 9 rfl ?_
  refine zg_lload_n hX 1 rfl dX10_say_9 rfl 10 rfl ?_
  refine zg_ladd hX dX10_say_10 11 rfl ?_
  refine mp_0_32 hX mw_673 dX10_say_11 14 rfl ?_
  exact zg_vret hX hR (Nat.le_refl _) (Nat.le_refl _) rfl dX10_say_14 (⟨rfl, rfl⟩)
-- Model.digest
set_option maxRecDepth 20000 in
theorem c_X10_digest (l : Launch) (D : va_G) (cI : ClassId) (q : Nat → Nat) (f : Nat → Int) (r : Nat → Nat → Int) (σ : Sg) (B : Nat)  (hσ : sOK σ B) (hB : B ≤ 100) (h : MRel f r σ) : Cn l D cI yX10_digest cX10_digest 3 (some .long) 10 0 0 [.ref (q 0)] (mW cI q f r) (qLM cI q (o_digest σ)) := by
  refine Cn.of [(0, .ref (q 0))] (by decide +kernel) (Nat.le_of_ble_eq_true rfl) rfl (fun X hX hR => ?_)
  have hsl := hσ.1
  have hg6 := hσ.2.1
  have hP := hσ.2.2.1
  have hE := hσ.2.2.2.1
  have hpb6 := hP.1
  have hpL9 := hP.2.1
  have hn4 := hE.1
  have hT6 := hE.2.2.2.2.1
  have hep := hE.2.2.2.2.2.2.2
  have hbk := hE.2.2.2.2.2.2.1
  have hs1 := hσ.2.2.2.2.2.1
  have hs2 := hσ.2.2.2.2.2.2.1
  have hs3 := hσ.2.2.2.2.2.2.2.1
  have hbd := hσ.2.2.2.2.2.2.2.2.1
  have hρ : RuOK (sr σ) := rho_OK hP hE
  have ht : tk (sr σ) (st σ) := rho_tk hE
  have hrb : rb (sr σ) = pb (sP σ) := rfl
  have hrn : rn (sr σ) = en (sE σ) := rfl
  have hrl : rl (sr σ) = pL (sP σ) := rfl
  have hm : mR f r (sr σ) := mR_of h.2.1 h.2.2.1
  refine zg_aload_n hX 0 rfl dX10_digest_0 rfl 1 rfl ?_
  refine zg_ldc2 (a := 859) hX mw_976 (by decide) dX10_digest_1 4 rfl ?_
  refine mp_0_32 hX mw_673 dX10_digest_4 7 rfl ?_
  refine zg_iconst hX dX10_digest_7 8 rfl ?_
  refine zg_istore_n hX [(1, .int (zI 0)), (0, .ref (q 0))] dX10_digest_8 rfl (by decide) rfl 9 rfl ?_
  have L9 : ∀ (fuel : Nat) (i : Nat) (F1 : Nat → Int) (R1 : Nat → Nat → Int) (x9_1 : Int), (pb (sP σ) - i < fuel) → (i ≤ pb (sP σ)) → (MRel F1 R1 σ) → (F1 19 = dgB σ 859 i) → x9_1 = (i : Int) → G X 3 0 0 (mW cI q F1 R1) [(0, .ref (q 0)), (1, .int (zI x9_1))] 9 [] := by
    intro fuel
    induction fuel with
    | zero =>
      intro i F1 R1 x9_1 hm9
      exact absurd hm9 (Nat.not_lt_zero _)
    | succ fuel ih9 =>
      intro i F1 R1 x9_1 hm9 hi h1 g1 ex9_1
      subst ex9_1
      refine zg_iload_n hX 1 rfl dX10_digest_9 rfl 10 rfl ?_
      refine zg_aload_n hX 0 rfl dX10_digest_10 rfl 11 rfl ?_
      refine mg_0_6 hX mw_647 (pb (sP σ) : Int) h1.2.1.1 dX10_digest_11 14 rfl ?_
      refine zg_icmp_ge hX (by omega) (by omega) dX10_digest_14 47 (by decide) 17 rfl (fun h14 => ?_) (fun h14 => ?_)
      · refine zg_iconst hX dX10_digest_47 48 rfl ?_
        refine zg_istore_n hX [(1, .int (zI 0)), (0, .ref (q 0))] dX10_digest_48 rfl (by decide) rfl 49 rfl ?_
        have L49 : ∀ (fuel : Nat) (p : Nat) (F3 : Nat → Int) (R3 : Nat → Nat → Int) (x49_1 : Int), (en (sE σ) - p < fuel) → (p ≤ en (sE σ)) → (MRel F3 R3 σ) → (F3 19 = dgP σ (dgB σ 859 (pb (sP σ))) p) → x49_1 = (p : Int) → G X 3 0 0 (mW cI q F3 R3) [(0, .ref (q 0)), (1, .int (zI x49_1))] 49 [] := by
          intro fuel
          induction fuel with
          | zero =>
            intro p F3 R3 x49_1 hm49
            exact absurd hm49 (Nat.not_lt_zero _)
          | succ fuel ih49 =>
            intro p F3 R3 x49_1 hm49 hp h3 g3 ex49_1
            subst ex49_1
            refine zg_iload_n hX 1 rfl dX10_digest_49 rfl 50 rfl ?_
            refine zg_aload_n hX 0 rfl dX10_digest_50 rfl 51 rfl ?_
            refine mg_0_12 hX mw_653 (en (sE σ) : Int) h3.2.2.1.1 dX10_digest_51 54 rfl ?_
            refine zg_icmp_ge hX (by omega) (by omega) dX10_digest_54 108 (by decide) 57 rfl (fun h54 => ?_) (fun h54 => ?_)
            · refine zg_aload_n hX 0 rfl dX10_digest_108 rfl 109 rfl ?_
              refine zg_callVi (As := []) (rest := []) (k0 := 0) (ci := 9) hX (c_X10_lacks l D cI q F3 R3 (sr σ) hρ (mR_of h3.2.1 h3.2.2.1)) mw_781 mw_783 mw_s14 mw_10 mw_784 sg_X10_lacks (by decide) (by decide) (Nat.le_refl _) (Nat.le_refl _) rfl rfl rfl (Nat.le_of_ble_eq_true rfl) dX10_digest_109 112 rfl ?_
              refine zg_ifb_ne hX dX10_digest_112 135 (by decide) 115 rfl (fun h112 => ?_) (fun h112 => ?_)
              · have hlk := of_decide_eq_true h112
                refine zg_iconst hX dX10_digest_135 136 rfl ?_
                refine zg_istore_n hX [(1, .int (zI 0)), (0, .ref (q 0))] dX10_digest_136 rfl (by decide) rfl 137 rfl ?_
                have L137 : ∀ (fuel : Nat) (k : Nat) (F5 : Nat → Int) (R5 : Nat → Nat → Int) (x137_1 : Int), (sl σ - k < fuel) → (k ≤ sl σ) → (MRel F5 R5 σ) → (F5 19 = dgF (fun k => (sg σ k : Int)) (dgH σ (dgP σ (dgB σ 859 (pb (sP σ))) (en (sE σ)))) k) → x137_1 = (k : Int) → G X 3 0 0 (mW cI q F5 R5) [(0, .ref (q 0)), (1, .int (zI x137_1))] 137 [] := by
                  intro fuel
                  induction fuel with
                  | zero =>
                    intro k F5 R5 x137_1 hm137
                    exact absurd hm137 (Nat.not_lt_zero _)
                  | succ fuel ih137 =>
                    intro k F5 R5 x137_1 hm137 hk h5 g5 ex137_1
                    subst ex137_1
                    refine zg_iload_n hX 1 rfl dX10_digest_137 rfl 138 rfl ?_
                    refine zg_aload_n hX 0 rfl dX10_digest_138 rfl 139 rfl ?_
                    refine mg_0_1 hX mw_642 (sl σ : Int) h5.1.1 dX10_digest_139 142 rfl ?_
                    refine zg_icmp_ge hX (by omega) (by omega) dX10_digest_142 162 (by decide) 145 rfl (fun h142 => ?_) (fun h142 => ?_)
                    · refine zg_iconst hX dX10_digest_162 163 rfl ?_
                      refine zg_istore_n hX [(1, .int (zI 0)), (0, .ref (q 0))] dX10_digest_163 rfl (by decide) rfl 164 rfl ?_
                      have L164 : ∀ (fuel : Nat) (u : Nat) (F6 : Nat → Int) (R6 : Nat → Nat → Int) (x164_1 : Int), (13 - u < fuel) → (u ≤ 13) → (MRel F6 R6 σ) → (F6 19 = dgF (fun w => cntA σ (w : Int)) (dgF (fun k => (sg σ k : Int)) (dgH σ (dgP σ (dgB σ 859 (pb (sP σ))) (en (sE σ)))) (sl σ)) u) → x164_1 = (u : Int) → G X 3 0 0 (mW cI q F6 R6) [(0, .ref (q 0)), (1, .int (zI x164_1))] 164 [] := by
                        intro fuel
                        induction fuel with
                        | zero =>
                          intro u F6 R6 x164_1 hm164
                          exact absurd hm164 (Nat.not_lt_zero _)
                        | succ fuel ih164 =>
                          intro u F6 R6 x164_1 hm164 hu h6 g6 ex164_1
                          subst ex164_1
                          refine zg_iload_n hX 1 rfl dX10_digest_164 rfl 165 rfl ?_
                          refine zg_bipush hX dX10_digest_165 167 rfl (by decide) ?_
                          refine zg_icmp_ge hX (by omega) (by omega) dX10_digest_167 186 (by decide) 170 rfl (fun h167 => ?_) (fun h167 => ?_)
                          · refine zg_aload_n hX 0 rfl dX10_digest_186 rfl 187 rfl ?_
                            refine mg_0_32 hX mw_673 (dgF (fun w => cntA σ (w : Int)) (dgF (fun k => (sg σ k : Int)) (dgH σ (dgP σ (dgB σ 859 (pb (sP σ))) (en (sE σ)))) (sl σ)) u) g6 dX10_digest_187 190 rfl ?_
                            exact zg_lret hX hR (Nat.le_refl _) (Nat.le_refl _) rfl dX10_digest_190 (qLM_ret (by unfold o_digest; rw [show (13 : Nat) = u by omega]) h6)
                          · refine zg_aload_n hX 0 rfl dX10_digest_170 rfl 171 rfl ?_
                            refine zg_aload_n hX 0 rfl dX10_digest_171 rfl 172 rfl ?_
                            refine zg_iload_n hX 1 rfl dX10_digest_172 rfl 173 rfl ?_
                            refine zg_callV (As := [.int (zI (u : Int))]) (rest := [.ref (q 0)]) (k0 := 0) (ci := 9) hX (c_X10_countOf l D cI q F6 R6 σ B (u : Int) hσ hB h6 (by omega)) mw_968 mw_970 mw_s40 mw_10 mw_971 sg_X10_countOf (by decide) (by decide) (Nat.le_refl _) (Nat.le_refl _) rfl rfl rfl (Nat.le_of_ble_eq_true rfl) dX10_digest_173 176 rfl (fun v173 W173 hp173 => ?_)
                            obtain ⟨R173, rfl, rfl, hf173⟩ := hp173
                            show G X 3 0 0 (mW cI q F6 R173) [(0, .ref (q 0)), (1, .int (zI (u : Int)))] 176 [.int (zI (if 0 ≤ (u : Int) ∧ (u : Int) ≤ 12 then cntA σ (u : Int) else -102)), .ref (q 0)]
                            have e176 : (if 0 ≤ (u : Int) ∧ (u : Int) ≤ 12 then cntA σ (u : Int) else -102 : Int) = cntA σ (u : Int) := by rw [if_pos (by omega)]
                            refine zg_to (lv2 := [(0, .ref (q 0)), (1, .int (zI (u : Int)))]) (ws2 := (mW cI q F6 R173)) (st2 := [.int (zI (cntA σ (u : Int))), .ref (q 0)]) ?_ rfl rfl (by first | (rw [e176]; done) | (rw [← e176]; done))
                            refine zg_i2l hX (by have := cntA_rng hσ hB (u : Int); omega) dX10_digest_176 177 rfl ?_
                            refine zg_callV (As := [.long (zL (cntA σ (u : Int)))]) (rest := []) (k0 := 0) (ci := 9) hX (c_X10_say l D cI q F6 R173 (cntA σ (u : Int))) mw_977 mw_979 mw_s41 mw_10 mw_980 sg_X10_say (by decide) (by decide) (Nat.le_refl _) (Nat.le_refl _) rfl rfl rfl (Nat.le_of_ble_eq_true rfl) dX10_digest_177 180 rfl (fun v177 W177 hp177 => ?_)
                            obtain ⟨rfl, rfl⟩ := hp177
                            show G X 3 0 0 (mW cI q (pu F6 19 (31 * F6 19 + cntA σ (u : Int))) R173) [(0, .ref (q 0)), (1, .int (zI (u : Int)))] 180 []
                            refine zg_iinc hX [(1, .int (zI ((u : Int) + 1))), (0, .ref (q 0))] 1 rfl dX10_digest_180 (by decide) rfl 183 rfl ?_
                            refine zg_goto hX dX10_digest_183 164 (by decide) ?_
                            exact zg_lv _ [1, 0] rfl (ih164 (u + 1) (pu F6 19 (31 * F6 19 + cntA σ (u : Int))) R173 _ (by omega) (by omega) (MRel_f (MRel_r h6 hf173) (fun j _ _ _ _ e => pu_ne _ _ e)) (by rw [pu_eq, g6]; rfl) (by omega))
                      exact zg_lv _ [1, 0] rfl (L164 _ 0 F5 R5 _ (Nat.lt_succ_self _) (by omega) (h5) (by rw [g5, show k = sl σ by omega]; rfl) (rfl))
                    · refine zg_aload_n hX 0 rfl dX10_digest_145 rfl 146 rfl ?_
                      refine zg_aload_n hX 0 rfl dX10_digest_146 rfl 147 rfl ?_
                      refine mg_0_0 hX mw_641 dX10_digest_147 150 rfl ?_
                      refine zg_iload_n hX 1 rfl dX10_digest_150 rfl 151 rfl ?_
                      refine ma_1 hX k (sg σ k : Int) (by omega) (by omega) (h5.1.2 k (by omega)) dX10_digest_151 152 rfl ?_
                      refine zg_i2l hX (by have := hg6 k; omega) dX10_digest_152 153 rfl ?_
                      refine zg_callV (As := [.long (zL (sg σ k : Int))]) (rest := []) (k0 := 0) (ci := 9) hX (c_X10_say l D cI q F5 R5 (sg σ k : Int)) mw_977 mw_979 mw_s41 mw_10 mw_980 sg_X10_say (by decide) (by decide) (Nat.le_refl _) (Nat.le_refl _) rfl rfl rfl (Nat.le_of_ble_eq_true rfl) dX10_digest_153 156 rfl (fun v153 W153 hp153 => ?_)
                      obtain ⟨rfl, rfl⟩ := hp153
                      show G X 3 0 0 (mW cI q (pu F5 19 (31 * F5 19 + (sg σ k : Int))) R5) [(0, .ref (q 0)), (1, .int (zI (k : Int)))] 156 []
                      refine zg_iinc hX [(1, .int (zI ((k : Int) + 1))), (0, .ref (q 0))] 1 rfl dX10_digest_156 (by decide) rfl 159 rfl ?_
                      refine zg_goto hX dX10_digest_159 137 (by decide) ?_
                      exact zg_lv _ [1, 0] rfl (ih137 (k + 1) (pu F5 19 (31 * F5 19 + (sg σ k : Int))) R5 _ (by omega) (by omega) (MRel_f h5 (fun j _ _ _ _ e => pu_ne _ _ e)) (by rw [pu_eq, g5]; rfl) (by omega))
                exact zg_lv _ [1, 0] rfl (L137 _ 0 F3 R3 _ (Nat.lt_succ_self _) (by omega) (by first | exact h3 | exact MRel_f (MRel_r h118 hf128) (fun j _ _ _ _ e => pu_ne _ _ e)) (by
                    show _ = dgH σ _
                    unfold dgH
                    first | (rw [if_pos (by omega), g3, show p = en (sE σ) by omega]; done) | (rw [if_neg (by omega), pu_eq, pu_eq, g3, show p = en (sE σ) by omega]; done)) (rfl))
              · have hlk := of_decide_eq_false h112
                refine zg_aload_n hX 0 rfl dX10_digest_115 rfl 116 rfl ?_
                refine zg_aload_n hX 0 rfl dX10_digest_116 rfl 117 rfl ?_
                refine zg_iconst hX dX10_digest_117 118 rfl ?_
                refine zg_callV (As := [.int (zI 0)]) (rest := [.ref (q 0)]) (k0 := 0) (ci := 9) hX (c_X10_hearingOf l D cI q F3 R3 σ B 0 hσ hB h3 (by omega)) mw_880 mw_882 mw_s30 mw_10 mw_883 sg_X10_hearingOf (by decide) (by decide) (Nat.le_refl _) (Nat.le_refl _) rfl rfl rfl (Nat.le_of_ble_eq_true rfl) dX10_digest_118 121 rfl (fun v118 W118 hp118 => ?_)
                obtain ⟨R118, rfl, rfl, hf118⟩ := hp118
                show G X 3 0 0 (mW cI q F3 R118) [(0, .ref (q 0)), (1, .int (zI (p : Int)))] 121 [.int (zI (if (0 : Int) = 0 then hear0 σ else hear1 σ)), .ref (q 0)]
                have e121 : (if (0 : Int) = 0 then hear0 σ else hear1 σ : Int) = hear0 σ := by rw [if_pos rfl]
                refine zg_to (lv2 := [(0, .ref (q 0)), (1, .int (zI (p : Int)))]) (ws2 := (mW cI q F3 R118)) (st2 := [.int (zI (hear0 σ)), .ref (q 0)]) ?_ rfl rfl (by first | (rw [e121]; done) | (rw [← e121]; done))
                refine zg_i2l hX (by have := hear0_rng hσ; omega) dX10_digest_121 122 rfl ?_
                refine zg_callV (As := [.long (zL (hear0 σ))]) (rest := []) (k0 := 0) (ci := 9) hX (c_X10_say l D cI q F3 R118 (hear0 σ)) mw_977 mw_979 mw_s41 mw_10 mw_980 sg_X10_say (by decide) (by decide) (Nat.le_refl _) (Nat.le_refl _) rfl rfl rfl (Nat.le_of_ble_eq_true rfl) dX10_digest_122 125 rfl (fun v122 W122 hp122 => ?_)
                obtain ⟨rfl, rfl⟩ := hp122
                show G X 3 0 0 (mW cI q (pu F3 19 (31 * F3 19 + hear0 σ)) R118) [(0, .ref (q 0)), (1, .int (zI (p : Int)))] 125 []
                have h118 : MRel (pu F3 19 (31 * F3 19 + hear0 σ)) R118 σ := MRel_f (MRel_r h3 hf118) (fun j _ _ _ _ e => pu_ne _ _ e)
                refine zg_aload_n hX 0 rfl dX10_digest_125 rfl 126 rfl ?_
                refine zg_aload_n hX 0 rfl dX10_digest_126 rfl 127 rfl ?_
                refine zg_iconst hX dX10_digest_127 128 rfl ?_
                refine zg_callV (As := [.int (zI 1)]) (rest := [.ref (q 0)]) (k0 := 0) (ci := 9) hX (c_X10_hearingOf l D cI q (pu F3 19 (31 * F3 19 + hear0 σ)) R118 σ B 1 hσ hB h118 (by omega)) mw_880 mw_882 mw_s30 mw_10 mw_883 sg_X10_hearingOf (by decide) (by decide) (Nat.le_refl _) (Nat.le_refl _) rfl rfl rfl (Nat.le_of_ble_eq_true rfl) dX10_digest_128 131 rfl (fun v128 W128 hp128 => ?_)
                obtain ⟨R128, rfl, rfl, hf128⟩ := hp128
                show G X 3 0 0 (mW cI q (pu F3 19 (31 * F3 19 + hear0 σ)) R128) [(0, .ref (q 0)), (1, .int (zI (p : Int)))] 131 [.int (zI (if (1 : Int) = 0 then hear0 σ else hear1 σ)), .ref (q 0)]
                have e131 : (if (1 : Int) = 0 then hear0 σ else hear1 σ : Int) = hear1 σ := by rw [if_neg (by decide)]
                refine zg_to (lv2 := [(0, .ref (q 0)), (1, .int (zI (p : Int)))]) (ws2 := (mW cI q (pu F3 19 (31 * F3 19 + hear0 σ)) R128)) (st2 := [.int (zI (hear1 σ)), .ref (q 0)]) ?_ rfl rfl (by first | (rw [e131]; done) | (rw [← e131]; done))
                refine zg_i2l hX (by have := hear1_rng hσ; omega) dX10_digest_131 132 rfl ?_
                refine zg_callV (As := [.long (zL (hear1 σ))]) (rest := []) (k0 := 0) (ci := 9) hX (c_X10_say l D cI q (pu F3 19 (31 * F3 19 + hear0 σ)) R128 (hear1 σ)) mw_977 mw_979 mw_s41 mw_10 mw_980 sg_X10_say (by decide) (by decide) (Nat.le_refl _) (Nat.le_refl _) rfl rfl rfl (Nat.le_of_ble_eq_true rfl) dX10_digest_132 135 rfl (fun v132 W132 hp132 => ?_)
                obtain ⟨rfl, rfl⟩ := hp132
                show G X 3 0 0 (mW cI q (pu (pu F3 19 (31 * F3 19 + hear0 σ)) 19 (31 * (pu F3 19 (31 * F3 19 + hear0 σ)) 19 + hear1 σ)) R128) [(0, .ref (q 0)), (1, .int (zI (p : Int)))] 135 []
                refine zg_iconst hX dX10_digest_135 136 rfl ?_
                refine zg_istore_n hX [(1, .int (zI 0)), (0, .ref (q 0))] dX10_digest_136 rfl (by decide) rfl 137 rfl ?_
                have L137 : ∀ (fuel : Nat) (k : Nat) (F5 : Nat → Int) (R5 : Nat → Nat → Int) (x137_1 : Int), (sl σ - k < fuel) → (k ≤ sl σ) → (MRel F5 R5 σ) → (F5 19 = dgF (fun k => (sg σ k : Int)) (dgH σ (dgP σ (dgB σ 859 (pb (sP σ))) (en (sE σ)))) k) → x137_1 = (k : Int) → G X 3 0 0 (mW cI q F5 R5) [(0, .ref (q 0)), (1, .int (zI x137_1))] 137 [] := by
                  intro fuel
                  induction fuel with
                  | zero =>
                    intro k F5 R5 x137_1 hm137
                    exact absurd hm137 (Nat.not_lt_zero _)
                  | succ fuel ih137 =>
                    intro k F5 R5 x137_1 hm137 hk h5 g5 ex137_1
                    subst ex137_1
                    refine zg_iload_n hX 1 rfl dX10_digest_137 rfl 138 rfl ?_
                    refine zg_aload_n hX 0 rfl dX10_digest_138 rfl 139 rfl ?_
                    refine mg_0_1 hX mw_642 (sl σ : Int) h5.1.1 dX10_digest_139 142 rfl ?_
                    refine zg_icmp_ge hX (by omega) (by omega) dX10_digest_142 162 (by decide) 145 rfl (fun h142 => ?_) (fun h142 => ?_)
                    · refine zg_iconst hX dX10_digest_162 163 rfl ?_
                      refine zg_istore_n hX [(1, .int (zI 0)), (0, .ref (q 0))] dX10_digest_163 rfl (by decide) rfl 164 rfl ?_
                      have L164 : ∀ (fuel : Nat) (u : Nat) (F6 : Nat → Int) (R6 : Nat → Nat → Int) (x164_1 : Int), (13 - u < fuel) → (u ≤ 13) → (MRel F6 R6 σ) → (F6 19 = dgF (fun w => cntA σ (w : Int)) (dgF (fun k => (sg σ k : Int)) (dgH σ (dgP σ (dgB σ 859 (pb (sP σ))) (en (sE σ)))) (sl σ)) u) → x164_1 = (u : Int) → G X 3 0 0 (mW cI q F6 R6) [(0, .ref (q 0)), (1, .int (zI x164_1))] 164 [] := by
                        intro fuel
                        induction fuel with
                        | zero =>
                          intro u F6 R6 x164_1 hm164
                          exact absurd hm164 (Nat.not_lt_zero _)
                        | succ fuel ih164 =>
                          intro u F6 R6 x164_1 hm164 hu h6 g6 ex164_1
                          subst ex164_1
                          refine zg_iload_n hX 1 rfl dX10_digest_164 rfl 165 rfl ?_
                          refine zg_bipush hX dX10_digest_165 167 rfl (by decide) ?_
                          refine zg_icmp_ge hX (by omega) (by omega) dX10_digest_167 186 (by decide) 170 rfl (fun h167 => ?_) (fun h167 => ?_)
                          · refine zg_aload_n hX 0 rfl dX10_digest_186 rfl 187 rfl ?_
                            refine mg_0_32 hX mw_673 (dgF (fun w => cntA σ (w : Int)) (dgF (fun k => (sg σ k : Int)) (dgH σ (dgP σ (dgB σ 859 (pb (sP σ))) (en (sE σ)))) (sl σ)) u) g6 dX10_digest_187 190 rfl ?_
                            exact zg_lret hX hR (Nat.le_refl _) (Nat.le_refl _) rfl dX10_digest_190 (qLM_ret (by unfold o_digest; rw [show (13 : Nat) = u by omega]) h6)
                          · refine zg_aload_n hX 0 rfl dX10_digest_170 rfl 171 rfl ?_
                            refine zg_aload_n hX 0 rfl dX10_digest_171 rfl 172 rfl ?_
                            refine zg_iload_n hX 1 rfl dX10_digest_172 rfl 173 rfl ?_
                            refine zg_callV (As := [.int (zI (u : Int))]) (rest := [.ref (q 0)]) (k0 := 0) (ci := 9) hX (c_X10_countOf l D cI q F6 R6 σ B (u : Int) hσ hB h6 (by omega)) mw_968 mw_970 mw_s40 mw_10 mw_971 sg_X10_countOf (by decide) (by decide) (Nat.le_refl _) (Nat.le_refl _) rfl rfl rfl (Nat.le_of_ble_eq_true rfl) dX10_digest_173 176 rfl (fun v173 W173 hp173 => ?_)
                            obtain ⟨R173, rfl, rfl, hf173⟩ := hp173
                            show G X 3 0 0 (mW cI q F6 R173) [(0, .ref (q 0)), (1, .int (zI (u : Int)))] 176 [.int (zI (if 0 ≤ (u : Int) ∧ (u : Int) ≤ 12 then cntA σ (u : Int) else -102)), .ref (q 0)]
                            have e176 : (if 0 ≤ (u : Int) ∧ (u : Int) ≤ 12 then cntA σ (u : Int) else -102 : Int) = cntA σ (u : Int) := by rw [if_pos (by omega)]
                            refine zg_to (lv2 := [(0, .ref (q 0)), (1, .int (zI (u : Int)))]) (ws2 := (mW cI q F6 R173)) (st2 := [.int (zI (cntA σ (u : Int))), .ref (q 0)]) ?_ rfl rfl (by first | (rw [e176]; done) | (rw [← e176]; done))
                            refine zg_i2l hX (by have := cntA_rng hσ hB (u : Int); omega) dX10_digest_176 177 rfl ?_
                            refine zg_callV (As := [.long (zL (cntA σ (u : Int)))]) (rest := []) (k0 := 0) (ci := 9) hX (c_X10_say l D cI q F6 R173 (cntA σ (u : Int))) mw_977 mw_979 mw_s41 mw_10 mw_980 sg_X10_say (by decide) (by decide) (Nat.le_refl _) (Nat.le_refl _) rfl rfl rfl (Nat.le_of_ble_eq_true rfl) dX10_digest_177 180 rfl (fun v177 W177 hp177 => ?_)
                            obtain ⟨rfl, rfl⟩ := hp177
                            show G X 3 0 0 (mW cI q (pu F6 19 (31 * F6 19 + cntA σ (u : Int))) R173) [(0, .ref (q 0)), (1, .int (zI (u : Int)))] 180 []
                            refine zg_iinc hX [(1, .int (zI ((u : Int) + 1))), (0, .ref (q 0))] 1 rfl dX10_digest_180 (by decide) rfl 183 rfl ?_
                            refine zg_goto hX dX10_digest_183 164 (by decide) ?_
                            exact zg_lv _ [1, 0] rfl (ih164 (u + 1) (pu F6 19 (31 * F6 19 + cntA σ (u : Int))) R173 _ (by omega) (by omega) (MRel_f (MRel_r h6 hf173) (fun j _ _ _ _ e => pu_ne _ _ e)) (by rw [pu_eq, g6]; rfl) (by omega))
                      exact zg_lv _ [1, 0] rfl (L164 _ 0 F5 R5 _ (Nat.lt_succ_self _) (by omega) (h5) (by rw [g5, show k = sl σ by omega]; rfl) (rfl))
                    · refine zg_aload_n hX 0 rfl dX10_digest_145 rfl 146 rfl ?_
                      refine zg_aload_n hX 0 rfl dX10_digest_146 rfl 147 rfl ?_
                      refine mg_0_0 hX mw_641 dX10_digest_147 150 rfl ?_
                      refine zg_iload_n hX 1 rfl dX10_digest_150 rfl 151 rfl ?_
                      refine ma_1 hX k (sg σ k : Int) (by omega) (by omega) (h5.1.2 k (by omega)) dX10_digest_151 152 rfl ?_
                      refine zg_i2l hX (by have := hg6 k; omega) dX10_digest_152 153 rfl ?_
                      refine zg_callV (As := [.long (zL (sg σ k : Int))]) (rest := []) (k0 := 0) (ci := 9) hX (c_X10_say l D cI q F5 R5 (sg σ k : Int)) mw_977 mw_979 mw_s41 mw_10 mw_980 sg_X10_say (by decide) (by decide) (Nat.le_refl _) (Nat.le_refl _) rfl rfl rfl (Nat.le_of_ble_eq_true rfl) dX10_digest_153 156 rfl (fun v153 W153 hp153 => ?_)
                      obtain ⟨rfl, rfl⟩ := hp153
                      show G X 3 0 0 (mW cI q (pu F5 19 (31 * F5 19 + (sg σ k : Int))) R5) [(0, .ref (q 0)), (1, .int (zI (k : Int)))] 156 []
                      refine zg_iinc hX [(1, .int (zI ((k : Int) + 1))), (0, .ref (q 0))] 1 rfl dX10_digest_156 (by decide) rfl 159 rfl ?_
                      refine zg_goto hX dX10_digest_159 137 (by decide) ?_
                      exact zg_lv _ [1, 0] rfl (ih137 (k + 1) (pu F5 19 (31 * F5 19 + (sg σ k : Int))) R5 _ (by omega) (by omega) (MRel_f h5 (fun j _ _ _ _ e => pu_ne _ _ e)) (by rw [pu_eq, g5]; rfl) (by omega))
                exact zg_lv _ [1, 0] rfl (L137 _ 0 (pu (pu F3 19 (31 * F3 19 + hear0 σ)) 19 (31 * (pu F3 19 (31 * F3 19 + hear0 σ)) 19 + hear1 σ)) R128 _ (Nat.lt_succ_self _) (by omega) (by first | exact h3 | exact MRel_f (MRel_r h118 hf128) (fun j _ _ _ _ e => pu_ne _ _ e)) (by
                    show _ = dgH σ _
                    unfold dgH
                    first | (rw [if_pos (by omega), g3, show p = en (sE σ) by omega]; done) | (rw [if_neg (by omega), pu_eq, pu_eq, g3, show p = en (sE σ) by omega]; done)) (rfl))
            · refine zg_iconst hX dX10_digest_57 58 rfl ?_
              refine zg_istore_n hX [(2, .int (zI 0)), (0, .ref (q 0)), (1, .int (zI (p : Int)))] dX10_digest_58 rfl (by decide) rfl 59 rfl ?_
              have L59 : ∀ (fuel : Nat) (v : Nat) (F4 : Nat → Int) (R4 : Nat → Nat → Int) (x59_2 : Int), (7 - v < fuel) → (v ≤ 7) → (MRel F4 R4 σ) → (F4 19 = dgF (fun w => tellP σ p (w : Int)) (dgP σ (dgB σ 859 (pb (sP σ))) p) v) → x59_2 = (v : Int) → G X 3 0 0 (mW cI q F4 R4) [(0, .ref (q 0)), (1, .int (zI (p : Int))), (2, .int (zI x59_2))] 59 [] := by
                intro fuel
                induction fuel with
                | zero =>
                  intro v F4 R4 x59_2 hm59
                  exact absurd hm59 (Nat.not_lt_zero _)
                | succ fuel ih59 =>
                  intro v F4 R4 x59_2 hm59 hv h4 g4 ex59_2
                  subst ex59_2
                  refine zg_iload_n hX 2 rfl dX10_digest_59 rfl 60 rfl ?_
                  refine zg_bipush hX dX10_digest_60 62 rfl (by decide) ?_
                  refine zg_icmp_ge hX (by omega) (by omega) dX10_digest_62 82 (by decide) 65 rfl (fun h62 => ?_) (fun h62 => ?_)
                  · refine zg_aload_n hX 0 rfl dX10_digest_82 rfl 83 rfl ?_
                    refine zg_aload_n hX 0 rfl dX10_digest_83 rfl 84 rfl ?_
                    refine zg_iload_n hX 1 rfl dX10_digest_84 rfl 85 rfl ?_
                    refine zg_callV (As := [.int (zI (p : Int))]) (rest := [.ref (q 0)]) (k0 := 0) (ci := 9) hX (c_X10_guessOf l D cI q F4 R4 σ B p hσ hB h4 (by omega)) mw_926 mw_928 mw_s36 mw_10 mw_929 sg_X10_guessOf (by decide) (by decide) (Nat.le_refl _) (Nat.le_refl _) rfl rfl rfl (Nat.le_of_ble_eq_true rfl) dX10_digest_85 88 rfl (fun v85 W85 hp85 => ?_)
                    obtain ⟨R85, rfl, rfl, hf85⟩ := hp85
                    show G X 3 0 0 (mW cI q F4 R85) [(0, .ref (q 0)), (1, .int (zI (p : Int))), (2, .int (zI (v : Int)))] 88 [.int (zI (gss σ p)), .ref (q 0)]
                    refine zg_i2l hX (by have := gss_rng σ p; omega) dX10_digest_88 89 rfl ?_
                    refine zg_callV (As := [.long (zL (gss σ p))]) (rest := []) (k0 := 0) (ci := 9) hX (c_X10_say l D cI q F4 R85 (gss σ p)) mw_977 mw_979 mw_s41 mw_10 mw_980 sg_X10_say (by decide) (by decide) (Nat.le_refl _) (Nat.le_refl _) rfl rfl rfl (Nat.le_of_ble_eq_true rfl) dX10_digest_89 92 rfl (fun v89 W89 hp89 => ?_)
                    obtain ⟨rfl, rfl⟩ := hp89
                    show G X 3 0 0 (mW cI q (pu F4 19 (31 * F4 19 + gss σ p)) R85) [(0, .ref (q 0)), (1, .int (zI (p : Int))), (2, .int (zI (v : Int)))] 92 []
                    have h85 : MRel (pu F4 19 (31 * F4 19 + gss σ p)) R85 σ := MRel_f (MRel_r h4 hf85) (fun j _ _ _ _ e => pu_ne _ _ e)
                    refine zg_aload_n hX 0 rfl dX10_digest_92 rfl 93 rfl ?_
                    refine zg_aload_n hX 0 rfl dX10_digest_93 rfl 94 rfl ?_
                    refine zg_iload_n hX 1 rfl dX10_digest_94 rfl 95 rfl ?_
                    refine zg_callV (As := [.int (zI (p : Int))]) (rest := [.ref (q 0)]) (k0 := 0) (ci := 9) hX (c_X10_listenOf l D cI q (pu F4 19 (31 * F4 19 + gss σ p)) R85 σ B p hσ hB h85 (by omega)) mw_938 mw_940 mw_s38 mw_10 mw_941 sg_X10_listenOf (by decide) (by decide) (Nat.le_refl _) (Nat.le_refl _) rfl rfl rfl (Nat.le_of_ble_eq_true rfl) dX10_digest_95 98 rfl (fun v95 W95 hp95 => ?_)
                    obtain ⟨R95, rfl, rfl, hf95⟩ := hp95
                    show G X 3 0 0 (mW cI q (pu F4 19 (31 * F4 19 + gss σ p)) R95) [(0, .ref (q 0)), (1, .int (zI (p : Int))), (2, .int (zI (v : Int)))] 98 [.int (zI (lis σ p)), .ref (q 0)]
                    refine zg_i2l hX (by have := lis_rng hσ p; omega) dX10_digest_98 99 rfl ?_
                    refine zg_callV (As := [.long (zL (lis σ p))]) (rest := []) (k0 := 0) (ci := 9) hX (c_X10_say l D cI q (pu F4 19 (31 * F4 19 + gss σ p)) R95 (lis σ p)) mw_977 mw_979 mw_s41 mw_10 mw_980 sg_X10_say (by decide) (by decide) (Nat.le_refl _) (Nat.le_refl _) rfl rfl rfl (Nat.le_of_ble_eq_true rfl) dX10_digest_99 102 rfl (fun v99 W99 hp99 => ?_)
                    obtain ⟨rfl, rfl⟩ := hp99
                    show G X 3 0 0 (mW cI q (pu (pu F4 19 (31 * F4 19 + gss σ p)) 19 (31 * (pu F4 19 (31 * F4 19 + gss σ p)) 19 + lis σ p)) R95) [(0, .ref (q 0)), (1, .int (zI (p : Int))), (2, .int (zI (v : Int)))] 102 []
                    refine zg_iinc hX [(1, .int (zI ((p : Int) + 1))), (0, .ref (q 0)), (2, .int (zI (v : Int)))] 1 rfl dX10_digest_102 (by decide) rfl 105 rfl ?_
                    refine zg_goto hX dX10_digest_105 49 (by decide) ?_
                    exact zg_lv _ [1, 0] rfl (ih49 (p + 1) (pu (pu F4 19 (31 * F4 19 + gss σ p)) 19 (31 * (pu F4 19 (31 * F4 19 + gss σ p)) 19 + lis σ p)) R95 _ (by omega) (by omega) (MRel_f (MRel_r h85 hf95) (fun j _ _ _ _ e => pu_ne _ _ e)) (by rw [pu_eq, pu_eq, g4, show v = 7 by omega]; rfl) (by omega))
                  · refine zg_aload_n hX 0 rfl dX10_digest_65 rfl 66 rfl ?_
                    refine zg_aload_n hX 0 rfl dX10_digest_66 rfl 67 rfl ?_
                    refine zg_iload_n hX 1 rfl dX10_digest_67 rfl 68 rfl ?_
                    refine zg_iload_n hX 2 rfl dX10_digest_68 rfl 69 rfl ?_
                    refine zg_callV (As := [.int (zI (p : Int)), .int (zI (v : Int))]) (rest := [.ref (q 0)]) (k0 := 0) (ci := 9) hX (c_X10_tellPlayer l D cI q F4 R4 σ B p (v : Int) hσ hB h4 (by omega) (by omega)) mw_840 mw_842 mw_s26 mw_10 mw_843 sg_X10_tellPlayer (by decide) (by decide) (Nat.le_refl _) (Nat.le_refl _) rfl rfl rfl (Nat.le_of_ble_eq_true rfl) dX10_digest_69 72 rfl (fun v69 W69 hp69 => ?_)
                    obtain ⟨R69, rfl, rfl, hf69⟩ := hp69
                    show G X 3 0 0 (mW cI q F4 R69) [(0, .ref (q 0)), (1, .int (zI (p : Int))), (2, .int (zI (v : Int)))] 72 [.int (zI (if 0 ≤ (v : Int) ∧ (v : Int) ≤ 6 then tellP σ p (v : Int) else -102)), .ref (q 0)]
                    have e72 : (if 0 ≤ (v : Int) ∧ (v : Int) ≤ 6 then tellP σ p (v : Int) else -102 : Int) = tellP σ p (v : Int) := by rw [if_pos (by omega)]
                    refine zg_to (lv2 := [(0, .ref (q 0)), (1, .int (zI (p : Int))), (2, .int (zI (v : Int)))]) (ws2 := (mW cI q F4 R69)) (st2 := [.int (zI (tellP σ p (v : Int))), .ref (q 0)]) ?_ rfl rfl (by first | (rw [e72]; done) | (rw [← e72]; done))
                    refine zg_i2l hX (by have := tellP_rng hσ hB p (v : Int); omega) dX10_digest_72 73 rfl ?_
                    refine zg_callV (As := [.long (zL (tellP σ p (v : Int)))]) (rest := []) (k0 := 0) (ci := 9) hX (c_X10_say l D cI q F4 R69 (tellP σ p (v : Int))) mw_977 mw_979 mw_s41 mw_10 mw_980 sg_X10_say (by decide) (by decide) (Nat.le_refl _) (Nat.le_refl _) rfl rfl rfl (Nat.le_of_ble_eq_true rfl) dX10_digest_73 76 rfl (fun v73 W73 hp73 => ?_)
                    obtain ⟨rfl, rfl⟩ := hp73
                    show G X 3 0 0 (mW cI q (pu F4 19 (31 * F4 19 + tellP σ p (v : Int))) R69) [(0, .ref (q 0)), (1, .int (zI (p : Int))), (2, .int (zI (v : Int)))] 76 []
                    refine zg_iinc hX [(2, .int (zI ((v : Int) + 1))), (0, .ref (q 0)), (1, .int (zI (p : Int)))] 2 rfl dX10_digest_76 (by decide) rfl 79 rfl ?_
                    refine zg_goto hX dX10_digest_79 59 (by decide) ?_
                    exact zg_lv _ [1, 2, 0] rfl (ih59 (v + 1) (pu F4 19 (31 * F4 19 + tellP σ p (v : Int))) R69 _ (by omega) (by omega) (MRel_f (MRel_r h4 hf69) (fun j _ _ _ _ e => pu_ne _ _ e)) (by rw [pu_eq, g4]; rfl) (by omega))
              exact zg_lv _ [1, 2, 0] rfl (L59 _ 0 F3 R3 _ (Nat.lt_succ_self _) (by omega) (h3) (g3) (rfl))
        exact zg_lv _ [1, 0] rfl (L49 _ 0 F1 R1 _ (Nat.lt_succ_self _) (by omega) (h1) (by rw [g1, show i = pb (sP σ) by omega]; rfl) (rfl))
      · refine zg_iconst hX dX10_digest_17 18 rfl ?_
        refine zg_istore_n hX [(2, .int (zI 0)), (0, .ref (q 0)), (1, .int (zI (i : Int)))] dX10_digest_18 rfl (by decide) rfl 19 rfl ?_
        have L19 : ∀ (fuel : Nat) (j : Nat) (F2 : Nat → Int) (R2 : Nat → Nat → Int) (x19_2 : Int), (4 - j < fuel) → (j ≤ 4) → (MRel F2 R2 σ) → (F2 19 = dgF (fun w => tellB σ i (w : Int)) (dgB σ 859 i) j) → x19_2 = (j : Int) → G X 3 0 0 (mW cI q F2 R2) [(0, .ref (q 0)), (1, .int (zI (i : Int))), (2, .int (zI x19_2))] 19 [] := by
          intro fuel
          induction fuel with
          | zero =>
            intro j F2 R2 x19_2 hm19
            exact absurd hm19 (Nat.not_lt_zero _)
          | succ fuel ih19 =>
            intro j F2 R2 x19_2 hm19 hj h2 g2 ex19_2
            subst ex19_2
            refine zg_iload_n hX 2 rfl dX10_digest_19 rfl 20 rfl ?_
            refine zg_iconst hX dX10_digest_20 21 rfl ?_
            refine zg_icmp_ge hX (by omega) (by omega) dX10_digest_21 41 (by decide) 24 rfl (fun h21 => ?_) (fun h21 => ?_)
            · refine zg_iinc hX [(1, .int (zI ((i : Int) + 1))), (0, .ref (q 0)), (2, .int (zI (j : Int)))] 1 rfl dX10_digest_41 (by decide) rfl 44 rfl ?_
              refine zg_goto hX dX10_digest_44 9 (by decide) ?_
              exact zg_lv _ [1, 0] rfl (ih9 (i + 1) F2 R2 _ (by omega) (by omega) (h2) (by rw [g2, show j = 4 by omega]; rfl) (by omega))
            · refine zg_aload_n hX 0 rfl dX10_digest_24 rfl 25 rfl ?_
              refine zg_aload_n hX 0 rfl dX10_digest_25 rfl 26 rfl ?_
              refine zg_iload_n hX 1 rfl dX10_digest_26 rfl 27 rfl ?_
              refine zg_iload_n hX 2 rfl dX10_digest_27 rfl 28 rfl ?_
              refine zg_callV (As := [.int (zI (i : Int)), .int (zI (j : Int))]) (rest := [.ref (q 0)]) (k0 := 0) (ci := 9) hX (c_X10_tellBar l D cI q F2 R2 σ B i (j : Int) hσ hB h2 (by omega) (by omega)) mw_793 mw_795 mw_s16 mw_10 mw_796 sg_X10_tellBar (by decide) (by decide) (Nat.le_refl _) (Nat.le_refl _) rfl rfl rfl (Nat.le_of_ble_eq_true rfl) dX10_digest_28 31 rfl (fun v28 W28 hp28 => ?_)
              obtain ⟨R28, rfl, rfl, hf28⟩ := hp28
              show G X 3 0 0 (mW cI q F2 R28) [(0, .ref (q 0)), (1, .int (zI (i : Int))), (2, .int (zI (j : Int)))] 31 [.int (zI (if 0 ≤ (j : Int) ∧ (j : Int) ≤ 3 then tellB σ i (j : Int) else -102)), .ref (q 0)]
              have e31 : (if 0 ≤ (j : Int) ∧ (j : Int) ≤ 3 then tellB σ i (j : Int) else -102 : Int) = tellB σ i (j : Int) := by rw [if_pos (by omega)]
              refine zg_to (lv2 := [(0, .ref (q 0)), (1, .int (zI (i : Int))), (2, .int (zI (j : Int)))]) (ws2 := (mW cI q F2 R28)) (st2 := [.int (zI (tellB σ i (j : Int))), .ref (q 0)]) ?_ rfl rfl (by first | (rw [e31]; done) | (rw [← e31]; done))
              refine zg_i2l hX (by have := tellB_rng hσ i (j : Int); omega) dX10_digest_31 32 rfl ?_
              refine zg_callV (As := [.long (zL (tellB σ i (j : Int)))]) (rest := []) (k0 := 0) (ci := 9) hX (c_X10_say l D cI q F2 R28 (tellB σ i (j : Int))) mw_977 mw_979 mw_s41 mw_10 mw_980 sg_X10_say (by decide) (by decide) (Nat.le_refl _) (Nat.le_refl _) rfl rfl rfl (Nat.le_of_ble_eq_true rfl) dX10_digest_32 35 rfl (fun v32 W32 hp32 => ?_)
              obtain ⟨rfl, rfl⟩ := hp32
              show G X 3 0 0 (mW cI q (pu F2 19 (31 * F2 19 + tellB σ i (j : Int))) R28) [(0, .ref (q 0)), (1, .int (zI (i : Int))), (2, .int (zI (j : Int)))] 35 []
              refine zg_iinc hX [(2, .int (zI ((j : Int) + 1))), (0, .ref (q 0)), (1, .int (zI (i : Int)))] 2 rfl dX10_digest_35 (by decide) rfl 38 rfl ?_
              refine zg_goto hX dX10_digest_38 19 (by decide) ?_
              exact zg_lv _ [1, 2, 0] rfl (ih19 (j + 1) (pu F2 19 (31 * F2 19 + tellB σ i (j : Int))) R28 _ (by omega) (by omega) (MRel_f (MRel_r h2 hf28) (fun j _ _ _ _ e => pu_ne _ _ e)) (by rw [pu_eq, g2]; rfl) (by omega))
        exact zg_lv _ [1, 2, 0] rfl (L19 _ 0 F1 R1 _ (Nat.lt_succ_self _) (by omega) (h1) (g1) (rfl))
  exact zg_lv _ [1, 0] rfl (L9 _ 0 (pu f 19 859) r _ (Nat.lt_succ_self _) (by omega) (MRel_f h (fun j _ _ _ _ e => pu_ne _ _ e)) (rfl) (rfl))
