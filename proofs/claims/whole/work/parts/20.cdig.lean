def qL (cI : ClassId) (q : Nat → Nat) (o : Sg × Int) : Option Value → va_W → Prop := pC (cW cI q) (fun v f1 r1 => v = some (.long (zL o.2)) ∧ CRel f1 r1 o.1)
theorem qL_ret {cI : ClassId} {q : Nat → Nat} {o : Sg × Int} {σ1 : Sg} {a : Int} {f1 : Nat → Int} {r1 : Nat → Nat → Int} (ho : o = (σ1, a)) (h : CRel f1 r1 σ1) : qL cI q o (some (.long (zL a))) (cW cI q f1 r1) := by subst ho; exact ⟨f1, r1, rfl, rfl, h⟩
theorem sOK_ru {σ : Sg} {B : Nat} (h : sOK σ B) : RuOK (sr σ) := rho_OK h.2.2.1 h.2.2.2.1
theorem tellB_rng {σ : Sg} {B : Nat} (h : sOK σ B) (b : Nat) (w : Int) : -1 ≤ tellB σ b w ∧ tellB σ b w ≤ 4 := by
  unfold tellB
  have h1 := h.2.2.1.2.2.1 b
  have h2 := h.2.2.1.2.2.2 b
  have h3 := ls_4 (st σ) (sOK_ru h) b
  have h4 := ltl_rng (tb := eb (sE σ)) (b := b) h.2.2.2.1.2.2.2.2.2.1 (eT (sE σ))
  split
  · omega
  · split
    · omega
    · split
      · omega
      · omega
theorem shn_4 {σ : Sg} {B : Nat} (h : sOK σ B) (p : Nat) : shn σ p ≤ 4 := by
  unfold shn; split
  · exact (sh_facts _ _ _ (sOK_ru h)).1 p
  · omega
theorem tellP_rng {σ : Sg} {B : Nat} (h : sOK σ B) (hB : B ≤ 100) (p : Nat) (w : Int) : 0 ≤ tellP σ p w ∧ tellP σ p w ≤ 1000 := by
  unfold tellP
  have h1 := h.2.2.2.1.2.1 p
  have h2 : st σ p ≤ 9 := h.2.2.2.1.2.2.1 p
  have h3 := b2_rng (aw (sr σ) (st σ) p)
  have h4 := b2_rng (he (sr σ) (st σ) p)
  have h5 := shn_4 h p
  have h6 := h.2.2.2.2.2.2.2.2.1.1 p
  have h7 := h.2.2.2.2.2.2.2.2.1.2.1 p
  repeat' split
  all_goals omega
theorem gss_rng (σ : Sg) (p : Nat) : 0 ≤ gss σ p ∧ gss σ p < 4096 := by
  unfold gss; have := mk_rng (gs σ p) 10 (by omega); omega
theorem bb_rng (w : Nat → Nat) (n : Nat) : -1 ≤ (bb w n).1 ∧ (bb w n).1 ≤ (n : Int) := by
  induction n with
  | zero => simp [bb]
  | succ n ih => simp only [bb]; split
                 · show -1 ≤ (n : Int) ∧ (n : Int) ≤ _; omega
                 · omega
theorem lis_rng {σ : Sg} {B : Nat} (h : sOK σ B) (p : Nat) : -1 ≤ lis σ p ∧ lis σ p ≤ 6 := by
  unfold lis
  have h1 := bb_rng (wo σ p) (pb (sP σ))
  have h2 := h.2.2.1.1
  split <;> omega
theorem fz_rng (s : Nat → Nat) (m i : Nat) : -1 ≤ fz s i m ∧ fz s i m ≤ ((i + m : Nat) : Int) := by
  induction m generalizing i with
  | zero => simp only [fz]; omega
  | succ m ih => simp only [fz]; split
                 · omega
                 · have := ih (i + 1); omega
theorem hear0_rng {σ : Sg} {B : Nat} (h : sOK σ B) : 0 ≤ hear0 σ ∧ hear0 σ ≤ 24 := by
  unfold hear0
  have h1 := su_lt (s := ls (sr σ) (st σ)) (c := 4) (fun b => ls_4 _ (sOK_ru h) b) (pb (sP σ))
  have h2 := h.2.2.1.1
  omega
theorem hear1_rng {σ : Sg} {B : Nat} (h : sOK σ B) : -1 ≤ hear1 σ ∧ hear1 σ ≤ 6 := by
  unfold hear1
  have h1 := fz_rng (ls (sr σ) (st σ)) (pb (sP σ)) 0
  have h2 := h.2.2.1.1
  omega
theorem cntA_rng {σ : Sg} {B : Nat} (h : sOK σ B) (hB : B ≤ 100) (w : Int) : 0 ≤ cntA σ w ∧ cntA σ w ≤ 1000 := by
  unfold cntA
  have a1 := h.1
  have a2 := h.2.2.1.1
  have a3 := h.2.2.1.2.1
  have a4 := h.2.2.2.1.1
  have a5 := cw_le (aw (sr σ) (st σ))
  have a6 := cw_le (he (sr σ) (st σ))
  have a7 := h.2.2.2.1.2.2.2.2.2.2.2
  have a8 := h.2.2.2.2.2.2.2.2.1.2.2
  have a9 := su_lt (s := ec (sE σ)) (c := 100) (fun p => by have := h.2.2.2.2.2.2.2.2.1.2.1 p; omega) (en (sE σ))
  have b1 := h.2.2.2.1.2.2.2.2.1
  have b2 := h.2.2.2.2.2.1
  have b3 := h.2.2.2.2.2.2.1
  have b4 := h.2.2.2.2.2.2.2.1
  repeat' split
  all_goals omega
theorem sg_X9_withPlayer : yX9_withPlayer.cls = RX9 ∧ yX9_withPlayer.cls ≠ "java/lang/invoke/MethodHandle" ∧ yX9_withPlayer.cls ≠ "java/lang/invoke/VarHandle" ∧ (parseMethodDescriptor yX9_withPlayer.desc).map (fun d => d.parameters.length) = some 2 := by decide +kernel
theorem sg_X9_digest : yX9_digest.cls = RX9 ∧ yX9_digest.cls ≠ "java/lang/invoke/MethodHandle" ∧ yX9_digest.cls ≠ "java/lang/invoke/VarHandle" ∧ (parseMethodDescriptor yX9_digest.desc).map (fun d => d.parameters.length) = some 0 := by decide +kernel
-- withPlayer
set_option maxRecDepth 20000 in
theorem c_X9_withPlayer (l : Launch) (D : va_G) (cI : ClassId) (q : Nat → Nat) (f : Nat → Int) (r : Nat → Nat → Int) (σ : Sg) (B : Nat) (h0 : Int) (p : Nat) (hσ : sOK σ B) (hB : B ≤ 100) (h : CRel f r σ) (hp : p < en (sE σ)) : Cn l D cI yX9_withPlayer cX9_withPlayer 7 (some .long) 5 0 0 [.ref (q 0), .long (zL h0), .int (zI (p : Int))] (cW cI q f r) (qL cI q (σ, 31 * (31 * dgF (fun w => tellP σ p (w : Int)) h0 7 + gss σ p) + lis σ p)) := by
  refine Cn.of [(0, .ref (q 0)), (1, .long (zL h0)), (3, .int (zI (p : Int)))] (by decide +kernel) (Nat.le_of_ble_eq_true rfl) rfl (fun X hX hR => ?_)
  have hsl := hσ.1
  have hg6 := hσ.2.1
  have hP := hσ.2.2.1
  have hE := hσ.2.2.2.1
  have hpb6 := hP.1
  have hpL9 := hP.2.1
  have hn4 := hE.1
  have hT6 := hE.2.2.2.2.1
  have hep := hE.2.2.2.2.2.2.2
  have hbk := hE.2.2.2.2.2.2.1
  have hs1 := hσ.2.2.2.2.2.1
  have hs2 := hσ.2.2.2.2.2.2.1
  have hs3 := hσ.2.2.2.2.2.2.2.1
  have hbd := hσ.2.2.2.2.2.2.2.2.1
  have hρ : RuOK (sr σ) := rho_OK hP hE
  have hc : cR f r (sr σ) := cR_of h.2.1 h.2.2.1
  have ht : tk (sr σ) (st σ) := rho_tk hE
  have hrb : rb (sr σ) = pb (sP σ) := rfl
  have hrn : rn (sr σ) = en (sE σ) := rfl
  have hrl : rl (sr σ) = pL (sP σ) := rfl
  refine zg_lload_n hX 1 rfl dX9_withPlayer_0 rfl 1 rfl ?_
  refine zg_lstore hX [(4, .long (zL h0)), (0, .ref (q 0)), (1, .long (zL h0)), (3, .int (zI (p : Int)))] dX9_withPlayer_1 (by decide) rfl 3 rfl ?_
  refine zg_iconst hX dX9_withPlayer_3 4 rfl ?_
  refine zg_istore hX [(6, .int (zI 0)), (4, .long (zL h0)), (0, .ref (q 0)), (1, .long (zL h0)), (3, .int (zI (p : Int)))] dX9_withPlayer_4 (by decide) rfl 6 rfl ?_
  have L6 : ∀ (fuel : Nat) (i : Nat) (F1 : Nat → Int) (R1 : Nat → Nat → Int) (x6_4 : Int) (x6_6 : Int), (7 - i < fuel) → (i ≤ 7) → (CRel F1 R1 σ) → x6_4 = (dgF (fun w => tellP σ p (w : Int)) h0 i) → x6_6 = (i : Int) → G X 7 0 0 (cW cI q F1 R1) [(0, .ref (q 0)), (1, .long (zL h0)), (3, .int (zI (p : Int))), (4, .long (zL x6_4)), (6, .int (zI x6_6))] 6 [] := by
    intro fuel
    induction fuel with
    | zero =>
      intro i F1 R1 x6_4 x6_6 hm6
      exact absurd hm6 (Nat.not_lt_zero _)
    | succ fuel ih6 =>
      intro i F1 R1 x6_4 x6_6 hm6 hi h1 ex6_4 ex6_6
      subst ex6_4
      subst ex6_6
      refine zg_iload hX 4 rfl dX9_withPlayer_6 8 rfl ?_
      refine zg_bipush hX dX9_withPlayer_8 10 rfl (by decide) ?_
      refine zg_icmp_gt hX (by omega) (by omega) dX9_withPlayer_10 36 (by decide) 13 rfl (fun h10 => ?_) (fun h10 => ?_)
      · refine zg_aload_n hX 0 rfl dX9_withPlayer_36 rfl 37 rfl ?_
        refine cg_0_7 hX mw_256 dX9_withPlayer_37 40 rfl ?_
        refine zg_iload_n hX 2 rfl dX9_withPlayer_40 rfl 41 rfl ?_
        refine zg_callV (As := [.int (zI (p : Int))]) (rest := []) (k0 := 25) (ci := 4) hX (c_X4_study l D cI q F1 R1 (sP σ) (sE σ) p hP hE h1.2.1 h1.2.2.1 hp) mw_545 mw_546 mw_547 mw_8 mw_548 sg_X4_study (by decide) (by decide) (Nat.le_refl _) (Nat.le_refl _) rfl rfl rfl (Nat.le_of_ble_eq_true rfl) dX9_withPlayer_41 44 rfl (fun v41 W41 hp41 => ?_)
        obtain ⟨F41, R41, rfl, rfl, hfr, g19, g17⟩ := hp41
        show G X 7 0 0 (cW cI q F41 R41) [(0, .ref (q 0)), (1, .long (zL h0)), (3, .int (zI (p : Int))), (4, .long (zL (dgF (fun w => tellP σ p (w : Int)) h0 i))), (6, .int (zI (i : Int)))] 44 []
        refine zg_ldc2 (a := 31) hX mw_630 (by decide) dX9_withPlayer_44 47 rfl ?_
        refine zg_lload hX 3 rfl dX9_withPlayer_47 49 rfl ?_
        refine zg_lmul hX dX9_withPlayer_49 50 rfl ?_
        refine zg_aload_n hX 0 rfl dX9_withPlayer_50 rfl 51 rfl ?_
        refine cg_0_7 hX mw_256 dX9_withPlayer_51 54 rfl ?_
        refine cg_25_5 hX mw_207 (gss σ p) g19 dX9_withPlayer_54 57 rfl ?_
        refine zg_i2l hX (by have := gss_rng σ p; omega) dX9_withPlayer_57 58 rfl ?_
        refine zg_ladd hX dX9_withPlayer_58 59 rfl ?_
        refine zg_lstore hX [(4, .long (zL ((31 * (dgF (fun w => tellP σ p (w : Int)) h0 i)) + (gss σ p)))), (0, .ref (q 0)), (1, .long (zL h0)), (3, .int (zI (p : Int))), (6, .int (zI (i : Int)))] dX9_withPlayer_59 (by decide) rfl 61 rfl ?_
        refine zg_ldc2 (a := 31) hX mw_630 (by decide) dX9_withPlayer_61 64 rfl ?_
        refine zg_lload hX 0 rfl dX9_withPlayer_64 66 rfl ?_
        refine zg_lmul hX dX9_withPlayer_66 67 rfl ?_
        refine zg_aload_n hX 1 rfl dX9_withPlayer_67 rfl 68 rfl ?_
        refine cg_0_7 hX mw_256 dX9_withPlayer_68 71 rfl ?_
        refine zg_callV (As := []) (rest := [.long (zL (31 * ((31 * (dgF (fun w => tellP σ p (w : Int)) h0 i)) + (gss σ p))))]) (k0 := 25) (ci := 4) hX (c_X4_bestBar l D cI q F41 R41 (gs σ p) (fun x => lsv (sr σ) (pu (st σ) p x) (pb (sP σ))) (pb (sP σ)) g19 g17 (fun x b => lsv_4 _ hρ _ b) ((hfr.1 1 (by omega)).trans h1.2.1.1) hpb6) mw_560 mw_561 mw_562 mw_8 mw_563 sg_X4_bestBar (by decide) (by decide) (Nat.le_refl _) (Nat.le_refl _) rfl rfl rfl (Nat.le_of_ble_eq_true rfl) dX9_withPlayer_71 74 rfl (fun v71 W71 hp71 => ?_)
        obtain ⟨R71, rfl, rfl, hf71⟩ := hp71
        show G X 7 0 0 (cW cI q F41 R71) [(4, .long (zL ((31 * (dgF (fun w => tellP σ p (w : Int)) h0 i)) + (gss σ p)))), (0, .ref (q 0)), (1, .long (zL h0)), (3, .int (zI (p : Int))), (6, .int (zI (i : Int)))] 74 [.int (zI (if mk (gs σ p) 10 = 0 then -1 else (bb (fun b => mx (fun v => cn (gs σ p) (fun x => lsv (sr σ) (pu (st σ) p x) (pb (sP σ)) b) v 10) 5) (pb (sP σ))).1)), .long (zL (31 * ((31 * (dgF (fun w => tellP σ p (w : Int)) h0 i)) + (gss σ p))))]
        have e74 : (if mk (gs σ p) 10 = 0 then -1 else (bb (fun b => mx (fun v => cn (gs σ p) (fun x => lsv (sr σ) (pu (st σ) p x) (pb (sP σ)) b) v 10) 5) (pb (sP σ))).1 : Int) = lis σ p := lis_eq σ p
        refine zg_to (lv2 := [(4, .long (zL ((31 * (dgF (fun w => tellP σ p (w : Int)) h0 i)) + (gss σ p)))), (0, .ref (q 0)), (1, .long (zL h0)), (3, .int (zI (p : Int))), (6, .int (zI (i : Int)))]) (ws2 := (cW cI q F41 R71)) (st2 := [.int (zI (lis σ p)), .long (zL (31 * ((31 * (dgF (fun w => tellP σ p (w : Int)) h0 i)) + (gss σ p))))]) ?_ rfl rfl (by first | (rw [e74]; done) | (rw [← e74]; done))
        refine zg_i2l hX (by have := lis_rng hσ p; omega) dX9_withPlayer_74 75 rfl ?_
        refine zg_ladd hX dX9_withPlayer_75 76 rfl ?_
        exact zg_lret hX hR (Nat.le_refl _) (Nat.le_refl _) rfl dX9_withPlayer_76 (qL_ret (by rw [show (7 : Nat) = i by omega]) (CRel_fr h1 (hfr.tr ⟨fun _ _ => rfl, fun j hj => hf71 j (by omega)⟩)))
      · refine zg_ldc2 (a := 31) hX mw_630 (by decide) dX9_withPlayer_13 16 rfl ?_
        refine zg_lload hX 3 rfl dX9_withPlayer_16 18 rfl ?_
        refine zg_lmul hX dX9_withPlayer_18 19 rfl ?_
        refine zg_aload_n hX 0 rfl dX9_withPlayer_19 rfl 20 rfl ?_
        refine zg_iload_n hX 2 rfl dX9_withPlayer_20 rfl 21 rfl ?_
        refine zg_iload hX 4 rfl dX9_withPlayer_21 23 rfl ?_
        refine zg_callV (As := [.int (zI (p : Int)), .int (zI (i : Int))]) (rest := [.long (zL (31 * (dgF (fun w => tellP σ p (w : Int)) h0 i)))]) (k0 := 0) (ci := 8) hX (c_X9_ofPlayer l D cI q F1 R1 σ B p (i : Int) hσ hB h1 hp (by omega)) mw_421 mw_423 mw_s2 mw_1 mw_424 sg_X9_ofPlayer (by decide) (by decide) (Nat.le_refl _) (Nat.le_refl _) rfl rfl rfl (Nat.le_of_ble_eq_true rfl) dX9_withPlayer_23 26 rfl (fun v23 W23 hp23 => ?_)
        obtain ⟨F23, R23, rfl, rfl, hr23⟩ := hp23
        show G X 7 0 0 (cW cI q F23 R23) [(0, .ref (q 0)), (1, .long (zL h0)), (3, .int (zI (p : Int))), (4, .long (zL (dgF (fun w => tellP σ p (w : Int)) h0 i))), (6, .int (zI (i : Int)))] 26 [.int (zI (tellP σ p (i : Int))), .long (zL (31 * (dgF (fun w => tellP σ p (w : Int)) h0 i)))]
        refine zg_i2l hX (by have := tellP_rng hσ hB p (i : Int); omega) dX9_withPlayer_26 27 rfl ?_
        refine zg_ladd hX dX9_withPlayer_27 28 rfl ?_
        refine zg_lstore hX [(4, .long (zL ((31 * (dgF (fun w => tellP σ p (w : Int)) h0 i)) + (tellP σ p (i : Int))))), (0, .ref (q 0)), (1, .long (zL h0)), (3, .int (zI (p : Int))), (6, .int (zI (i : Int)))] dX9_withPlayer_28 (by decide) rfl 30 rfl ?_
        refine zg_iinc hX [(6, .int (zI ((i : Int) + 1))), (4, .long (zL ((31 * (dgF (fun w => tellP σ p (w : Int)) h0 i)) + (tellP σ p (i : Int))))), (0, .ref (q 0)), (1, .long (zL h0)), (3, .int (zI (p : Int)))] 4 rfl dX9_withPlayer_30 (by decide) rfl 33 rfl ?_
        refine zg_goto hX dX9_withPlayer_33 6 (by decide) ?_
        exact zg_lv _ [2, 3, 4, 1, 0] rfl (ih6 (i + 1) F23 R23 _ _ (by omega) (by omega) (hr23) (rfl) (by omega))
  exact zg_lv _ [2, 3, 4, 1, 0] rfl (L6 _ 0 f r _ _ (Nat.lt_succ_self _) (by omega) (h) (rfl) (rfl))
-- digest
set_option maxRecDepth 20000 in
theorem c_X9_digest (l : Launch) (D : va_G) (cI : ClassId) (q : Nat → Nat) (f : Nat → Int) (r : Nat → Nat → Int) (σ : Sg) (B : Nat) (hσ : sOK σ B) (hB : B ≤ 100) (h : CRel f r σ) : Cn l D cI yX9_digest cX9_digest 6 (some .long) 6 0 0 [.ref (q 0)] (cW cI q f r) (qL cI q (o_digest σ)) := by
  refine Cn.of [(0, .ref (q 0))] (by decide +kernel) (Nat.le_of_ble_eq_true rfl) rfl (fun X hX hR => ?_)
  have hsl := hσ.1
  have hg6 := hσ.2.1
  have hP := hσ.2.2.1
  have hE := hσ.2.2.2.1
  have hpb6 := hP.1
  have hpL9 := hP.2.1
  have hn4 := hE.1
  have hT6 := hE.2.2.2.2.1
  have hep := hE.2.2.2.2.2.2.2
  have hbk := hE.2.2.2.2.2.2.1
  have hs1 := hσ.2.2.2.2.2.1
  have hs2 := hσ.2.2.2.2.2.2.1
  have hs3 := hσ.2.2.2.2.2.2.2.1
  have hbd := hσ.2.2.2.2.2.2.2.2.1
  have hρ : RuOK (sr σ) := rho_OK hP hE
  have hc : cR f r (sr σ) := cR_of h.2.1 h.2.2.1
  have ht : tk (sr σ) (st σ) := rho_tk hE
  have hrb : rb (sr σ) = pb (sP σ) := rfl
  have hrn : rn (sr σ) = en (sE σ) := rfl
  have hrl : rl (sr σ) = pL (sP σ) := rfl
  refine zg_aload_n hX 0 rfl dX9_digest_0 rfl 1 rfl ?_
  refine cg_0_4 hX mw_253 dX9_digest_1 4 rfl ?_
  refine zg_aload_n hX 0 rfl dX9_digest_4 rfl 5 rfl ?_
  refine cg_0_2 hX mw_251 dX9_digest_5 8 rfl ?_
  refine cg_6_7 hX mw_100 (n6 (st σ)) h.2.2.1.2.2.1 dX9_digest_8 11 rfl ?_
  refine zg_callVi (As := [.int (zI (n6 (st σ)))]) (rest := []) (k0 := 18) (ci := 2) hX (c_X2_lossesFrom l D cI q f r (sr σ) (st σ) hρ hc ht) mw_350 mw_351 mw_352 mw_5 mw_353 sg_X2_lossesFrom (by decide) (by decide) (Nat.le_refl _) (Nat.le_refl _) rfl rfl rfl (Nat.le_of_ble_eq_true rfl) dX9_digest_11 14 rfl ?_
  refine zg_istore_n hX [(1, .int (zI (n6 (lsv (sr σ) (st σ) (rb (sr σ)))))), (0, .ref (q 0))] dX9_digest_14 rfl (by decide) rfl 15 rfl ?_
  refine zg_ldc2 (a := 859) hX mw_629 (by decide) dX9_digest_15 18 rfl ?_
  refine zg_lstore_n hX [(2, .long (zL 859)), (1, .int (zI (n6 (lsv (sr σ) (st σ) (rb (sr σ)))))), (0, .ref (q 0))] dX9_digest_18 rfl (by decide) rfl 19 rfl ?_
  refine zg_iconst hX dX9_digest_19 20 rfl ?_
  refine zg_istore hX [(4, .int (zI 0)), (2, .long (zL 859)), (1, .int (zI (n6 (lsv (sr σ) (st σ) (rb (sr σ)))))), (0, .ref (q 0))] dX9_digest_20 (by decide) rfl 22 rfl ?_
  have L22 : ∀ (fuel : Nat) (i : Nat) (F1 : Nat → Int) (R1 : Nat → Nat → Int) (x22_2 : Int) (x22_4 : Int), (pb (sP σ) - i < fuel) → (i ≤ pb (sP σ)) → (CRel F1 R1 σ) → x22_2 = (dgB σ 859 i) → x22_4 = (i : Int) → G X 6 0 0 (cW cI q F1 R1) [(0, .ref (q 0)), (1, .int (zI (n6 (lsv (sr σ) (st σ) (rb (sr σ)))))), (2, .long (zL x22_2)), (4, .int (zI x22_4))] 22 [] := by
    intro fuel
    induction fuel with
    | zero =>
      intro i F1 R1 x22_2 x22_4 hm22
      exact absurd hm22 (Nat.not_lt_zero _)
    | succ fuel ih22 =>
      intro i F1 R1 x22_2 x22_4 hm22 hi h1 ex22_2 ex22_4
      subst ex22_2
      subst ex22_4
      refine zg_iload hX 3 rfl dX9_digest_22 24 rfl ?_
      refine zg_aload_n hX 0 rfl dX9_digest_24 rfl 25 rfl ?_
      refine cg_0_1 hX mw_250 dX9_digest_25 28 rfl ?_
      refine cg_3_2 hX mw_60 (pb (sP σ) : Int) h1.2.1.1 dX9_digest_28 31 rfl ?_
      refine zg_icmp_ge hX (by omega) (by omega) dX9_digest_31 72 (by decide) 34 rfl (fun h31 => ?_) (fun h31 => ?_)
      · refine zg_iconst hX dX9_digest_72 73 rfl ?_
        refine zg_istore hX [(4, .int (zI 0)), (0, .ref (q 0)), (1, .int (zI (n6 (lsv (sr σ) (st σ) (rb (sr σ)))))), (2, .long (zL (dgB σ 859 i)))] dX9_digest_73 (by decide) rfl 75 rfl ?_
        have L75 : ∀ (fuel : Nat) (p : Nat) (F3 : Nat → Int) (R3 : Nat → Nat → Int) (x75_2 : Int) (x75_4 : Int), (en (sE σ) - p < fuel) → (p ≤ en (sE σ)) → (CRel F3 R3 σ) → x75_2 = (dgP σ (dgB σ 859 (pb (sP σ))) p) → x75_4 = (p : Int) → G X 6 0 0 (cW cI q F3 R3) [(0, .ref (q 0)), (1, .int (zI (n6 (lsv (sr σ) (st σ) (rb (sr σ)))))), (2, .long (zL x75_2)), (4, .int (zI x75_4))] 75 [] := by
          intro fuel
          induction fuel with
          | zero =>
            intro p F3 R3 x75_2 x75_4 hm75
            exact absurd hm75 (Nat.not_lt_zero _)
          | succ fuel ih75 =>
            intro p F3 R3 x75_2 x75_4 hm75 hp h3 ex75_2 ex75_4
            subst ex75_2
            subst ex75_4
            refine zg_iload hX 3 rfl dX9_digest_75 77 rfl ?_
            refine zg_aload_n hX 0 rfl dX9_digest_77 rfl 78 rfl ?_
            refine cg_0_2 hX mw_251 dX9_digest_78 81 rfl ?_
            refine cg_6_6 hX mw_95 (en (sE σ) : Int) h3.2.2.1.2.1 dX9_digest_81 84 rfl ?_
            refine zg_icmp_ge hX (by omega) (by omega) dX9_digest_84 101 (by decide) 87 rfl (fun h84 => ?_) (fun h84 => ?_)
            · refine zg_aload_n hX 0 rfl dX9_digest_101 rfl 102 rfl ?_
              refine cg_0_1 hX mw_250 dX9_digest_102 105 rfl ?_
              refine cg_3_2 hX mw_60 (pb (sP σ) : Int) h3.2.1.1 dX9_digest_105 108 rfl ?_
              refine zg_if_le hX (by omega) dX9_digest_108 137 (by decide) 111 rfl (fun h108 => ?_) (fun h108 => ?_)
              · have el137_2 : (dgP σ (dgB σ 859 (pb (sP σ))) p : Int) = dgH σ (dgP σ (dgB σ 859 (pb (sP σ))) (en (sE σ))) := by
                  rw [show p = en (sE σ) by omega]
                  conv => rhs; unfold dgH
                  first | (rw [if_pos (by omega)]; done) | (rw [if_neg (by omega)]; done)
                refine zg_to (lv2 := [(0, .ref (q 0)), (1, .int (zI (n6 (lsv (sr σ) (st σ) (rb (sr σ)))))), (2, .long (zL (dgH σ (dgP σ (dgB σ 859 (pb (sP σ))) (en (sE σ)))))), (4, .int (zI (p : Int)))]) (ws2 := (cW cI q F3 R3)) (st2 := []) ?_ rfl (by rw [← el137_2]) rfl
                refine zg_iconst hX dX9_digest_137 138 rfl ?_
                refine zg_istore hX [(4, .int (zI 0)), (0, .ref (q 0)), (1, .int (zI (n6 (lsv (sr σ) (st σ) (rb (sr σ)))))), (2, .long (zL (dgH σ (dgP σ (dgB σ 859 (pb (sP σ))) (en (sE σ))))))] dX9_digest_138 (by decide) rfl 140 rfl ?_
                have L140 : ∀ (fuel : Nat) (k : Nat) (x140_2 : Int) (x140_4 : Int), (sl σ - k < fuel) → (k ≤ sl σ) → x140_2 = (dgF (fun k => (sg σ k : Int)) (dgH σ (dgP σ (dgB σ 859 (pb (sP σ))) (en (sE σ)))) k) → x140_4 = (k : Int) → G X 6 0 0 (cW cI q F3 R3) [(0, .ref (q 0)), (1, .int (zI (n6 (lsv (sr σ) (st σ) (rb (sr σ)))))), (2, .long (zL x140_2)), (4, .int (zI x140_4))] 140 [] := by
                  intro fuel
                  induction fuel with
                  | zero =>
                    intro k x140_2 x140_4 hm140
                    exact absurd hm140 (Nat.not_lt_zero _)
                  | succ fuel ih140 =>
                    intro k x140_2 x140_4 hm140 hk ex140_2 ex140_4
                    subst ex140_2
                    subst ex140_4
                    refine zg_iload hX 3 rfl dX9_digest_140 142 rfl ?_
                    refine zg_aload_n hX 0 rfl dX9_digest_142 rfl 143 rfl ?_
                    refine cg_0_0 hX mw_249 dX9_digest_143 146 rfl ?_
                    refine cg_1_1 hX mw_33 (sl σ : Int) h3.1.1 dX9_digest_146 149 rfl ?_
                    refine zg_icmp_ge hX (by omega) (by omega) dX9_digest_149 176 (by decide) 152 rfl (fun h149 => ?_) (fun h149 => ?_)
                    · refine zg_iconst hX dX9_digest_176 177 rfl ?_
                      refine zg_istore hX [(4, .int (zI 0)), (0, .ref (q 0)), (1, .int (zI (n6 (lsv (sr σ) (st σ) (rb (sr σ)))))), (2, .long (zL (dgF (fun k => (sg σ k : Int)) (dgH σ (dgP σ (dgB σ 859 (pb (sP σ))) (en (sE σ)))) k)))] dX9_digest_177 (by decide) rfl 179 rfl ?_
                      have L179 : ∀ (fuel : Nat) (w : Nat) (F4 : Nat → Int) (R4 : Nat → Nat → Int) (x179_2 : Int) (x179_4 : Int), (13 - w < fuel) → (w ≤ 13) → (CRel F4 R4 σ) → x179_2 = (dgF (fun w => cntA σ (w : Int)) (dgF (fun k => (sg σ k : Int)) (dgH σ (dgP σ (dgB σ 859 (pb (sP σ))) (en (sE σ)))) (sl σ)) w) → x179_4 = (w : Int) → G X 6 0 0 (cW cI q F4 R4) [(0, .ref (q 0)), (1, .int (zI (n6 (lsv (sr σ) (st σ) (rb (sr σ)))))), (2, .long (zL x179_2)), (4, .int (zI x179_4))] 179 [] := by
                        intro fuel
                        induction fuel with
                        | zero =>
                          intro w F4 R4 x179_2 x179_4 hm179
                          exact absurd hm179 (Nat.not_lt_zero _)
                        | succ fuel ih179 =>
                          intro w F4 R4 x179_2 x179_4 hm179 hw h4 ex179_2 ex179_4
                          subst ex179_2
                          subst ex179_4
                          refine zg_iload hX 3 rfl dX9_digest_179 181 rfl ?_
                          refine zg_bipush hX dX9_digest_181 183 rfl (by decide) ?_
                          refine zg_icmp_gt hX (by omega) (by omega) dX9_digest_183 206 (by decide) 186 rfl (fun h183 => ?_) (fun h183 => ?_)
                          · refine zg_lload_n hX 2 rfl dX9_digest_206 rfl 207 rfl ?_
                            exact zg_lret hX hR (Nat.le_refl _) (Nat.le_refl _) rfl dX9_digest_207 (qL_ret (by unfold o_digest; rw [show (13 : Nat) = w by omega]) h4)
                          · refine zg_ldc2 (a := 31) hX mw_630 (by decide) dX9_digest_186 189 rfl ?_
                            refine zg_lload_n hX 2 rfl dX9_digest_189 rfl 190 rfl ?_
                            refine zg_lmul hX dX9_digest_190 191 rfl ?_
                            refine zg_aload_n hX 0 rfl dX9_digest_191 rfl 192 rfl ?_
                            refine zg_iload hX 3 rfl dX9_digest_192 194 rfl ?_
                            refine zg_callV (As := [.int (zI (w : Int))]) (rest := [.long (zL (31 * (dgF (fun w => cntA σ (w : Int)) (dgF (fun k => (sg σ k : Int)) (dgH σ (dgP σ (dgB σ 859 (pb (sP σ))) (en (sE σ)))) (sl σ)) w)))]) (k0 := 0) (ci := 8) hX (c_X9_countOf l D cI q F4 R4 σ B (w : Int) hσ hB h4 (by omega)) mw_611 mw_613 mw_s10 mw_1 mw_614 sg_X9_countOf (by decide) (by decide) (Nat.le_refl _) (Nat.le_refl _) rfl rfl rfl (Nat.le_of_ble_eq_true rfl) dX9_digest_194 197 rfl (fun v194 W194 hp194 => ?_)
                            obtain ⟨F194, R194, rfl, rfl, hr194⟩ := hp194
                            show G X 6 0 0 (cW cI q F194 R194) [(0, .ref (q 0)), (1, .int (zI (n6 (lsv (sr σ) (st σ) (rb (sr σ)))))), (2, .long (zL (dgF (fun w => cntA σ (w : Int)) (dgF (fun k => (sg σ k : Int)) (dgH σ (dgP σ (dgB σ 859 (pb (sP σ))) (en (sE σ)))) (sl σ)) w))), (4, .int (zI (w : Int)))] 197 [.int (zI (cntA σ (w : Int))), .long (zL (31 * (dgF (fun w => cntA σ (w : Int)) (dgF (fun k => (sg σ k : Int)) (dgH σ (dgP σ (dgB σ 859 (pb (sP σ))) (en (sE σ)))) (sl σ)) w)))]
                            refine zg_i2l hX (by have := cntA_rng hσ hB (w : Int); omega) dX9_digest_197 198 rfl ?_
                            refine zg_ladd hX dX9_digest_198 199 rfl ?_
                            refine zg_lstore_n hX [(2, .long (zL ((31 * (dgF (fun w => cntA σ (w : Int)) (dgF (fun k => (sg σ k : Int)) (dgH σ (dgP σ (dgB σ 859 (pb (sP σ))) (en (sE σ)))) (sl σ)) w)) + (cntA σ (w : Int))))), (0, .ref (q 0)), (1, .int (zI (n6 (lsv (sr σ) (st σ) (rb (sr σ)))))), (4, .int (zI (w : Int)))] dX9_digest_199 rfl (by decide) rfl 200 rfl ?_
                            refine zg_iinc hX [(4, .int (zI ((w : Int) + 1))), (2, .long (zL ((31 * (dgF (fun w => cntA σ (w : Int)) (dgF (fun k => (sg σ k : Int)) (dgH σ (dgP σ (dgB σ 859 (pb (sP σ))) (en (sE σ)))) (sl σ)) w)) + (cntA σ (w : Int))))), (0, .ref (q 0)), (1, .int (zI (n6 (lsv (sr σ) (st σ) (rb (sr σ))))))] 3 rfl dX9_digest_200 (by decide) rfl 203 rfl ?_
                            refine zg_goto hX dX9_digest_203 179 (by decide) ?_
                            exact zg_lv _ [2, 3, 1, 0] rfl (ih179 (w + 1) F194 R194 _ _ (by omega) (by omega) (hr194) (rfl) (by omega))
                      exact zg_lv _ [1, 2, 3, 0] rfl (L179 _ 0 F3 R3 _ _ (Nat.lt_succ_self _) (by omega) (h3) (by rw [show k = sl σ by omega]; rfl) (rfl))
                    · refine zg_ldc2 (a := 31) hX mw_630 (by decide) dX9_digest_152 155 rfl ?_
                      refine zg_lload_n hX 2 rfl dX9_digest_155 rfl 156 rfl ?_
                      refine zg_lmul hX dX9_digest_156 157 rfl ?_
                      refine zg_aload_n hX 0 rfl dX9_digest_157 rfl 158 rfl ?_
                      refine cg_0_0 hX mw_249 dX9_digest_158 161 rfl ?_
                      refine cg_1_0 hX mw_31 dX9_digest_161 164 rfl ?_
                      refine zg_iload hX 3 rfl dX9_digest_164 166 rfl ?_
                      refine ca_2 hX k (sg σ k : Int) (by omega) (by omega) (h3.1.2 k (by omega)) dX9_digest_166 167 rfl ?_
                      refine zg_i2l hX (by have := hg6 k; omega) dX9_digest_167 168 rfl ?_
                      refine zg_ladd hX dX9_digest_168 169 rfl ?_
                      refine zg_lstore_n hX [(2, .long (zL ((31 * (dgF (fun k => (sg σ k : Int)) (dgH σ (dgP σ (dgB σ 859 (pb (sP σ))) (en (sE σ)))) k)) + (sg σ k : Int)))), (0, .ref (q 0)), (1, .int (zI (n6 (lsv (sr σ) (st σ) (rb (sr σ)))))), (4, .int (zI (k : Int)))] dX9_digest_169 rfl (by decide) rfl 170 rfl ?_
                      refine zg_iinc hX [(4, .int (zI ((k : Int) + 1))), (2, .long (zL ((31 * (dgF (fun k => (sg σ k : Int)) (dgH σ (dgP σ (dgB σ 859 (pb (sP σ))) (en (sE σ)))) k)) + (sg σ k : Int)))), (0, .ref (q 0)), (1, .int (zI (n6 (lsv (sr σ) (st σ) (rb (sr σ))))))] 3 rfl dX9_digest_170 (by decide) rfl 173 rfl ?_
                      refine zg_goto hX dX9_digest_173 140 (by decide) ?_
                      exact zg_lv _ [2, 3, 1, 0] rfl (ih140 (k + 1) _ _ (by omega) (by omega) (rfl) (by omega))
                exact zg_lv _ [1, 2, 3, 0] rfl (L140 _ 0 _ _ (Nat.lt_succ_self _) (by omega) (rfl) (rfl))
              · refine zg_ldc2 (a := 31) hX mw_630 (by decide) dX9_digest_111 114 rfl ?_
                refine zg_lload_n hX 2 rfl dX9_digest_114 rfl 115 rfl ?_
                refine zg_lmul hX dX9_digest_115 116 rfl ?_
                refine zg_iconst hX dX9_digest_116 117 rfl ?_
                refine zg_iload_n hX 1 rfl dX9_digest_117 rfl 118 rfl ?_
                refine zg_callSi (As := [.int (zI 0), .int (zI (n6 (lsv (sr σ) (st σ) (rb (sr σ)))))]) (rest := [.long (zL (31 * (dgP σ (dgB σ 859 (pb (sP σ))) p)))]) hX (c_X9_ofHearing l D cI _ 0 (lsv (sr σ) (st σ) (rb (sr σ))) (by decide) (lsv_16 _ hρ _)) mw_466 mw_467 mw_1 mw_468 sg_X9_ofHearing.2 (by decide) (by decide) (Nat.le_refl _) (Nat.le_refl _) rfl (Nat.le_of_ble_eq_true rfl) dX9_digest_118 121 rfl ?_
                have e121 : (if (0 : Int) = 0 then (su (lsv (sr σ) (st σ) (rb (sr σ))) 6 : Int) else fz (lsv (sr σ) (st σ) (rb (sr σ))) 0 6 : Int) = hear0 σ := by rw [if_pos rfl, lsv_su _ _ _ (by omega)]; rfl
                refine zg_to (lv2 := [(0, .ref (q 0)), (1, .int (zI (n6 (lsv (sr σ) (st σ) (rb (sr σ)))))), (2, .long (zL (dgP σ (dgB σ 859 (pb (sP σ))) p))), (4, .int (zI (p : Int)))]) (ws2 := (cW cI q F3 R3)) (st2 := [.int (zI (hear0 σ)), .long (zL (31 * (dgP σ (dgB σ 859 (pb (sP σ))) p)))]) ?_ rfl rfl (by first | (rw [e121]; done) | (rw [← e121]; done))
                refine zg_i2l hX (by have := hear0_rng hσ; omega) dX9_digest_121 122 rfl ?_
                refine zg_ladd hX dX9_digest_122 123 rfl ?_
                refine zg_lstore_n hX [(2, .long (zL ((31 * (dgP σ (dgB σ 859 (pb (sP σ))) p)) + (hear0 σ)))), (0, .ref (q 0)), (1, .int (zI (n6 (lsv (sr σ) (st σ) (rb (sr σ)))))), (4, .int (zI (p : Int)))] dX9_digest_123 rfl (by decide) rfl 124 rfl ?_
                refine zg_ldc2 (a := 31) hX mw_630 (by decide) dX9_digest_124 127 rfl ?_
                refine zg_lload_n hX 0 rfl dX9_digest_127 rfl 128 rfl ?_
                refine zg_lmul hX dX9_digest_128 129 rfl ?_
                refine zg_iconst hX dX9_digest_129 130 rfl ?_
                refine zg_iload_n hX 2 rfl dX9_digest_130 rfl 131 rfl ?_
                refine zg_callSi (As := [.int (zI 1), .int (zI (n6 (lsv (sr σ) (st σ) (rb (sr σ)))))]) (rest := [.long (zL (31 * ((31 * (dgP σ (dgB σ 859 (pb (sP σ))) p)) + (hear0 σ))))]) hX (c_X9_ofHearing l D cI _ 1 (lsv (sr σ) (st σ) (rb (sr σ))) (by decide) (lsv_16 _ hρ _)) mw_466 mw_467 mw_1 mw_468 sg_X9_ofHearing.2 (by decide) (by decide) (Nat.le_refl _) (Nat.le_refl _) rfl (Nat.le_of_ble_eq_true rfl) dX9_digest_131 134 rfl ?_
                have e134 : (if (1 : Int) = 0 then (su (lsv (sr σ) (st σ) (rb (sr σ))) 6 : Int) else fz (lsv (sr σ) (st σ) (rb (sr σ))) 0 6 : Int) = hear1 σ := by rw [if_neg (by decide), lsv_fz _ (by omega)]; rfl
                refine zg_to (lv2 := [(2, .long (zL ((31 * (dgP σ (dgB σ 859 (pb (sP σ))) p)) + (hear0 σ)))), (0, .ref (q 0)), (1, .int (zI (n6 (lsv (sr σ) (st σ) (rb (sr σ)))))), (4, .int (zI (p : Int)))]) (ws2 := (cW cI q F3 R3)) (st2 := [.int (zI (hear1 σ)), .long (zL (31 * ((31 * (dgP σ (dgB σ 859 (pb (sP σ))) p)) + (hear0 σ))))]) ?_ rfl rfl (by first | (rw [e134]; done) | (rw [← e134]; done))
                refine zg_i2l hX (by have := hear1_rng hσ; omega) dX9_digest_134 135 rfl ?_
                refine zg_ladd hX dX9_digest_135 136 rfl ?_
                refine zg_lstore_n hX [(2, .long (zL ((31 * ((31 * (dgP σ (dgB σ 859 (pb (sP σ))) p)) + (hear0 σ))) + (hear1 σ)))), (0, .ref (q 0)), (1, .int (zI (n6 (lsv (sr σ) (st σ) (rb (sr σ)))))), (4, .int (zI (p : Int)))] dX9_digest_136 rfl (by decide) rfl 137 rfl ?_
                have el137_2 : ((31 * ((31 * (dgP σ (dgB σ 859 (pb (sP σ))) p)) + (hear0 σ))) + (hear1 σ) : Int) = dgH σ (dgP σ (dgB σ 859 (pb (sP σ))) (en (sE σ))) := by
                  rw [show p = en (sE σ) by omega]
                  conv => rhs; unfold dgH
                  first | (rw [if_pos (by omega)]; done) | (rw [if_neg (by omega)]; done)
                refine zg_to (lv2 := [(2, .long (zL (dgH σ (dgP σ (dgB σ 859 (pb (sP σ))) (en (sE σ)))))), (0, .ref (q 0)), (1, .int (zI (n6 (lsv (sr σ) (st σ) (rb (sr σ)))))), (4, .int (zI (p : Int)))]) (ws2 := (cW cI q F3 R3)) (st2 := []) ?_ rfl (by rw [← el137_2]) rfl
                refine zg_iconst hX dX9_digest_137 138 rfl ?_
                refine zg_istore hX [(4, .int (zI 0)), (2, .long (zL (dgH σ (dgP σ (dgB σ 859 (pb (sP σ))) (en (sE σ)))))), (0, .ref (q 0)), (1, .int (zI (n6 (lsv (sr σ) (st σ) (rb (sr σ))))))] dX9_digest_138 (by decide) rfl 140 rfl ?_
                have L140 : ∀ (fuel : Nat) (k : Nat) (x140_2 : Int) (x140_4 : Int), (sl σ - k < fuel) → (k ≤ sl σ) → x140_2 = (dgF (fun k => (sg σ k : Int)) (dgH σ (dgP σ (dgB σ 859 (pb (sP σ))) (en (sE σ)))) k) → x140_4 = (k : Int) → G X 6 0 0 (cW cI q F3 R3) [(0, .ref (q 0)), (1, .int (zI (n6 (lsv (sr σ) (st σ) (rb (sr σ)))))), (2, .long (zL x140_2)), (4, .int (zI x140_4))] 140 [] := by
                  intro fuel
                  induction fuel with
                  | zero =>
                    intro k x140_2 x140_4 hm140
                    exact absurd hm140 (Nat.not_lt_zero _)
                  | succ fuel ih140 =>
                    intro k x140_2 x140_4 hm140 hk ex140_2 ex140_4
                    subst ex140_2
                    subst ex140_4
                    refine zg_iload hX 3 rfl dX9_digest_140 142 rfl ?_
                    refine zg_aload_n hX 0 rfl dX9_digest_142 rfl 143 rfl ?_
                    refine cg_0_0 hX mw_249 dX9_digest_143 146 rfl ?_
                    refine cg_1_1 hX mw_33 (sl σ : Int) h3.1.1 dX9_digest_146 149 rfl ?_
                    refine zg_icmp_ge hX (by omega) (by omega) dX9_digest_149 176 (by decide) 152 rfl (fun h149 => ?_) (fun h149 => ?_)
                    · refine zg_iconst hX dX9_digest_176 177 rfl ?_
                      refine zg_istore hX [(4, .int (zI 0)), (0, .ref (q 0)), (1, .int (zI (n6 (lsv (sr σ) (st σ) (rb (sr σ)))))), (2, .long (zL (dgF (fun k => (sg σ k : Int)) (dgH σ (dgP σ (dgB σ 859 (pb (sP σ))) (en (sE σ)))) k)))] dX9_digest_177 (by decide) rfl 179 rfl ?_
                      have L179 : ∀ (fuel : Nat) (w : Nat) (F4 : Nat → Int) (R4 : Nat → Nat → Int) (x179_2 : Int) (x179_4 : Int), (13 - w < fuel) → (w ≤ 13) → (CRel F4 R4 σ) → x179_2 = (dgF (fun w => cntA σ (w : Int)) (dgF (fun k => (sg σ k : Int)) (dgH σ (dgP σ (dgB σ 859 (pb (sP σ))) (en (sE σ)))) (sl σ)) w) → x179_4 = (w : Int) → G X 6 0 0 (cW cI q F4 R4) [(0, .ref (q 0)), (1, .int (zI (n6 (lsv (sr σ) (st σ) (rb (sr σ)))))), (2, .long (zL x179_2)), (4, .int (zI x179_4))] 179 [] := by
                        intro fuel
                        induction fuel with
                        | zero =>
                          intro w F4 R4 x179_2 x179_4 hm179
                          exact absurd hm179 (Nat.not_lt_zero _)
                        | succ fuel ih179 =>
                          intro w F4 R4 x179_2 x179_4 hm179 hw h4 ex179_2 ex179_4
                          subst ex179_2
                          subst ex179_4
                          refine zg_iload hX 3 rfl dX9_digest_179 181 rfl ?_
                          refine zg_bipush hX dX9_digest_181 183 rfl (by decide) ?_
                          refine zg_icmp_gt hX (by omega) (by omega) dX9_digest_183 206 (by decide) 186 rfl (fun h183 => ?_) (fun h183 => ?_)
                          · refine zg_lload_n hX 2 rfl dX9_digest_206 rfl 207 rfl ?_
                            exact zg_lret hX hR (Nat.le_refl _) (Nat.le_refl _) rfl dX9_digest_207 (qL_ret (by unfold o_digest; rw [show (13 : Nat) = w by omega]) h4)
                          · refine zg_ldc2 (a := 31) hX mw_630 (by decide) dX9_digest_186 189 rfl ?_
                            refine zg_lload_n hX 2 rfl dX9_digest_189 rfl 190 rfl ?_
                            refine zg_lmul hX dX9_digest_190 191 rfl ?_
                            refine zg_aload_n hX 0 rfl dX9_digest_191 rfl 192 rfl ?_
                            refine zg_iload hX 3 rfl dX9_digest_192 194 rfl ?_
                            refine zg_callV (As := [.int (zI (w : Int))]) (rest := [.long (zL (31 * (dgF (fun w => cntA σ (w : Int)) (dgF (fun k => (sg σ k : Int)) (dgH σ (dgP σ (dgB σ 859 (pb (sP σ))) (en (sE σ)))) (sl σ)) w)))]) (k0 := 0) (ci := 8) hX (c_X9_countOf l D cI q F4 R4 σ B (w : Int) hσ hB h4 (by omega)) mw_611 mw_613 mw_s10 mw_1 mw_614 sg_X9_countOf (by decide) (by decide) (Nat.le_refl _) (Nat.le_refl _) rfl rfl rfl (Nat.le_of_ble_eq_true rfl) dX9_digest_194 197 rfl (fun v194 W194 hp194 => ?_)
                            obtain ⟨F194, R194, rfl, rfl, hr194⟩ := hp194
                            show G X 6 0 0 (cW cI q F194 R194) [(0, .ref (q 0)), (1, .int (zI (n6 (lsv (sr σ) (st σ) (rb (sr σ)))))), (2, .long (zL (dgF (fun w => cntA σ (w : Int)) (dgF (fun k => (sg σ k : Int)) (dgH σ (dgP σ (dgB σ 859 (pb (sP σ))) (en (sE σ)))) (sl σ)) w))), (4, .int (zI (w : Int)))] 197 [.int (zI (cntA σ (w : Int))), .long (zL (31 * (dgF (fun w => cntA σ (w : Int)) (dgF (fun k => (sg σ k : Int)) (dgH σ (dgP σ (dgB σ 859 (pb (sP σ))) (en (sE σ)))) (sl σ)) w)))]
                            refine zg_i2l hX (by have := cntA_rng hσ hB (w : Int); omega) dX9_digest_197 198 rfl ?_
                            refine zg_ladd hX dX9_digest_198 199 rfl ?_
                            refine zg_lstore_n hX [(2, .long (zL ((31 * (dgF (fun w => cntA σ (w : Int)) (dgF (fun k => (sg σ k : Int)) (dgH σ (dgP σ (dgB σ 859 (pb (sP σ))) (en (sE σ)))) (sl σ)) w)) + (cntA σ (w : Int))))), (0, .ref (q 0)), (1, .int (zI (n6 (lsv (sr σ) (st σ) (rb (sr σ)))))), (4, .int (zI (w : Int)))] dX9_digest_199 rfl (by decide) rfl 200 rfl ?_
                            refine zg_iinc hX [(4, .int (zI ((w : Int) + 1))), (2, .long (zL ((31 * (dgF (fun w => cntA σ (w : Int)) (dgF (fun k => (sg σ k : Int)) (dgH σ (dgP σ (dgB σ 859 (pb (sP σ))) (en (sE σ)))) (sl σ)) w)) + (cntA σ (w : Int))))), (0, .ref (q 0)), (1, .int (zI (n6 (lsv (sr σ) (st σ) (rb (sr σ))))))] 3 rfl dX9_digest_200 (by decide) rfl 203 rfl ?_
                            refine zg_goto hX dX9_digest_203 179 (by decide) ?_
                            exact zg_lv _ [2, 3, 1, 0] rfl (ih179 (w + 1) F194 R194 _ _ (by omega) (by omega) (hr194) (rfl) (by omega))
                      exact zg_lv _ [1, 2, 3, 0] rfl (L179 _ 0 F3 R3 _ _ (Nat.lt_succ_self _) (by omega) (h3) (by rw [show k = sl σ by omega]; rfl) (rfl))
                    · refine zg_ldc2 (a := 31) hX mw_630 (by decide) dX9_digest_152 155 rfl ?_
                      refine zg_lload_n hX 2 rfl dX9_digest_155 rfl 156 rfl ?_
                      refine zg_lmul hX dX9_digest_156 157 rfl ?_
                      refine zg_aload_n hX 0 rfl dX9_digest_157 rfl 158 rfl ?_
                      refine cg_0_0 hX mw_249 dX9_digest_158 161 rfl ?_
                      refine cg_1_0 hX mw_31 dX9_digest_161 164 rfl ?_
                      refine zg_iload hX 3 rfl dX9_digest_164 166 rfl ?_
                      refine ca_2 hX k (sg σ k : Int) (by omega) (by omega) (h3.1.2 k (by omega)) dX9_digest_166 167 rfl ?_
                      refine zg_i2l hX (by have := hg6 k; omega) dX9_digest_167 168 rfl ?_
                      refine zg_ladd hX dX9_digest_168 169 rfl ?_
                      refine zg_lstore_n hX [(2, .long (zL ((31 * (dgF (fun k => (sg σ k : Int)) (dgH σ (dgP σ (dgB σ 859 (pb (sP σ))) (en (sE σ)))) k)) + (sg σ k : Int)))), (0, .ref (q 0)), (1, .int (zI (n6 (lsv (sr σ) (st σ) (rb (sr σ)))))), (4, .int (zI (k : Int)))] dX9_digest_169 rfl (by decide) rfl 170 rfl ?_
                      refine zg_iinc hX [(4, .int (zI ((k : Int) + 1))), (2, .long (zL ((31 * (dgF (fun k => (sg σ k : Int)) (dgH σ (dgP σ (dgB σ 859 (pb (sP σ))) (en (sE σ)))) k)) + (sg σ k : Int)))), (0, .ref (q 0)), (1, .int (zI (n6 (lsv (sr σ) (st σ) (rb (sr σ))))))] 3 rfl dX9_digest_170 (by decide) rfl 173 rfl ?_
                      refine zg_goto hX dX9_digest_173 140 (by decide) ?_
                      exact zg_lv _ [2, 3, 1, 0] rfl (ih140 (k + 1) _ _ (by omega) (by omega) (rfl) (by omega))
                exact zg_lv _ [2, 3, 1, 0] rfl (L140 _ 0 _ _ (Nat.lt_succ_self _) (by omega) (rfl) (rfl))
            · refine zg_aload_n hX 0 rfl dX9_digest_87 rfl 88 rfl ?_
              refine zg_lload_n hX 2 rfl dX9_digest_88 rfl 89 rfl ?_
              refine zg_iload hX 3 rfl dX9_digest_89 91 rfl ?_
              refine zg_callV (As := [.long (zL (dgP σ (dgB σ 859 (pb (sP σ))) p)), .int (zI (p : Int))]) (rest := []) (k0 := 0) (ci := 8) hX (c_X9_withPlayer l D cI q F3 R3 σ B (dgP σ (dgB σ 859 (pb (sP σ))) p) p hσ hB h3 (by omega)) mw_631 mw_633 mw_s11 mw_1 mw_634 sg_X9_withPlayer (by decide) (by decide) (Nat.le_refl _) (Nat.le_refl _) rfl rfl rfl (Nat.le_of_ble_eq_true rfl) dX9_digest_91 94 rfl (fun v91 W91 hp91 => ?_)
              obtain ⟨F91, R91, rfl, rfl, hr91⟩ := hp91
              show G X 6 0 0 (cW cI q F91 R91) [(0, .ref (q 0)), (1, .int (zI (n6 (lsv (sr σ) (st σ) (rb (sr σ)))))), (2, .long (zL (dgP σ (dgB σ 859 (pb (sP σ))) p))), (4, .int (zI (p : Int)))] 94 [.long (zL (31 * (31 * dgF (fun w => tellP σ p (w : Int)) (dgP σ (dgB σ 859 (pb (sP σ))) p) 7 + gss σ p) + lis σ p))]
              refine zg_lstore_n hX [(2, .long (zL (31 * (31 * dgF (fun w => tellP σ p (w : Int)) (dgP σ (dgB σ 859 (pb (sP σ))) p) 7 + gss σ p) + lis σ p))), (0, .ref (q 0)), (1, .int (zI (n6 (lsv (sr σ) (st σ) (rb (sr σ)))))), (4, .int (zI (p : Int)))] dX9_digest_94 rfl (by decide) rfl 95 rfl ?_
              refine zg_iinc hX [(4, .int (zI ((p : Int) + 1))), (2, .long (zL (31 * (31 * dgF (fun w => tellP σ p (w : Int)) (dgP σ (dgB σ 859 (pb (sP σ))) p) 7 + gss σ p) + lis σ p))), (0, .ref (q 0)), (1, .int (zI (n6 (lsv (sr σ) (st σ) (rb (sr σ))))))] 3 rfl dX9_digest_95 (by decide) rfl 98 rfl ?_
              refine zg_goto hX dX9_digest_98 75 (by decide) ?_
              exact zg_lv _ [2, 3, 1, 0] rfl (ih75 (p + 1) F91 R91 _ _ (by omega) (by omega) (hr91) (rfl) (by omega))
        exact zg_lv _ [1, 2, 3, 0] rfl (L75 _ 0 F1 R1 _ _ (Nat.lt_succ_self _) (by omega) (h1) (by rw [show i = pb (sP σ) by omega]; rfl) (rfl))
      · refine zg_iconst hX dX9_digest_34 35 rfl ?_
        refine zg_istore hX [(5, .int (zI 0)), (0, .ref (q 0)), (1, .int (zI (n6 (lsv (sr σ) (st σ) (rb (sr σ)))))), (2, .long (zL (dgB σ 859 i))), (4, .int (zI (i : Int)))] dX9_digest_35 (by decide) rfl 37 rfl ?_
        have L37 : ∀ (fuel : Nat) (j : Nat) (F2 : Nat → Int) (R2 : Nat → Nat → Int) (x37_2 : Int) (x37_5 : Int), (4 - j < fuel) → (j ≤ 4) → (CRel F2 R2 σ) → x37_2 = (dgF (fun w => tellB σ i (w : Int)) (dgB σ 859 i) j) → x37_5 = (j : Int) → G X 6 0 0 (cW cI q F2 R2) [(0, .ref (q 0)), (1, .int (zI (n6 (lsv (sr σ) (st σ) (rb (sr σ)))))), (2, .long (zL x37_2)), (4, .int (zI (i : Int))), (5, .int (zI x37_5))] 37 [] := by
          intro fuel
          induction fuel with
          | zero =>
            intro j F2 R2 x37_2 x37_5 hm37
            exact absurd hm37 (Nat.not_lt_zero _)
          | succ fuel ih37 =>
            intro j F2 R2 x37_2 x37_5 hm37 hj h2 ex37_2 ex37_5
            subst ex37_2
            subst ex37_5
            refine zg_iload hX 4 rfl dX9_digest_37 39 rfl ?_
            refine zg_iconst hX dX9_digest_39 40 rfl ?_
            refine zg_icmp_gt hX (by omega) (by omega) dX9_digest_40 66 (by decide) 43 rfl (fun h40 => ?_) (fun h40 => ?_)
            · refine zg_iinc hX [(4, .int (zI ((i : Int) + 1))), (0, .ref (q 0)), (1, .int (zI (n6 (lsv (sr σ) (st σ) (rb (sr σ)))))), (2, .long (zL (dgF (fun w => tellB σ i (w : Int)) (dgB σ 859 i) j))), (5, .int (zI (j : Int)))] 3 rfl dX9_digest_66 (by decide) rfl 69 rfl ?_
              refine zg_goto hX dX9_digest_69 22 (by decide) ?_
              exact zg_lv _ [1, 2, 3, 0] rfl (ih22 (i + 1) F2 R2 _ _ (by omega) (by omega) (h2) (by rw [show j = 4 by omega]; rfl) (by omega))
            · refine zg_ldc2 (a := 31) hX mw_630 (by decide) dX9_digest_43 46 rfl ?_
              refine zg_lload_n hX 2 rfl dX9_digest_46 rfl 47 rfl ?_
              refine zg_lmul hX dX9_digest_47 48 rfl ?_
              refine zg_aload_n hX 0 rfl dX9_digest_48 rfl 49 rfl ?_
              refine zg_iload hX 3 rfl dX9_digest_49 51 rfl ?_
              refine zg_iload hX 4 rfl dX9_digest_51 53 rfl ?_
              refine zg_iload_n hX 1 rfl dX9_digest_53 rfl 54 rfl ?_
              refine zg_callV (As := [.int (zI (i : Int)), .int (zI (j : Int)), .int (zI (n6 (lsv (sr σ) (st σ) (rb (sr σ)))))]) (rest := [.long (zL (31 * (dgF (fun w => tellB σ i (w : Int)) (dgB σ 859 i) j)))]) (k0 := 0) (ci := 8) hX (c_X9_ofBar l D cI q F2 R2 σ B i (j : Int) hσ hB h2 (by omega) (by omega)) mw_389 mw_391 mw_s1 mw_1 mw_392 sg_X9_ofBar (by decide) (by decide) (Nat.le_refl _) (Nat.le_refl _) rfl rfl rfl (Nat.le_of_ble_eq_true rfl) dX9_digest_54 57 rfl (fun v54 W54 hp54 => ?_)
              obtain ⟨F54, R54, rfl, rfl, hr54⟩ := hp54
              show G X 6 0 0 (cW cI q F54 R54) [(0, .ref (q 0)), (1, .int (zI (n6 (lsv (sr σ) (st σ) (rb (sr σ)))))), (2, .long (zL (dgF (fun w => tellB σ i (w : Int)) (dgB σ 859 i) j))), (4, .int (zI (i : Int))), (5, .int (zI (j : Int)))] 57 [.int (zI (tellB σ i (j : Int))), .long (zL (31 * (dgF (fun w => tellB σ i (w : Int)) (dgB σ 859 i) j)))]
              refine zg_i2l hX (by have := tellB_rng hσ i (j : Int); omega) dX9_digest_57 58 rfl ?_
              refine zg_ladd hX dX9_digest_58 59 rfl ?_
              refine zg_lstore_n hX [(2, .long (zL ((31 * (dgF (fun w => tellB σ i (w : Int)) (dgB σ 859 i) j)) + (tellB σ i (j : Int))))), (0, .ref (q 0)), (1, .int (zI (n6 (lsv (sr σ) (st σ) (rb (sr σ)))))), (4, .int (zI (i : Int))), (5, .int (zI (j : Int)))] dX9_digest_59 rfl (by decide) rfl 60 rfl ?_
              refine zg_iinc hX [(5, .int (zI ((j : Int) + 1))), (2, .long (zL ((31 * (dgF (fun w => tellB σ i (w : Int)) (dgB σ 859 i) j)) + (tellB σ i (j : Int))))), (0, .ref (q 0)), (1, .int (zI (n6 (lsv (sr σ) (st σ) (rb (sr σ)))))), (4, .int (zI (i : Int)))] 4 rfl dX9_digest_60 (by decide) rfl 63 rfl ?_
              refine zg_goto hX dX9_digest_63 37 (by decide) ?_
              exact zg_lv _ [2, 3, 1, 4, 0] rfl (ih37 (j + 1) F54 R54 _ _ (by omega) (by omega) (hr54) (rfl) (by omega))
        exact zg_lv _ [1, 2, 3, 4, 0] rfl (L37 _ 0 F1 R1 _ _ (Nat.lt_succ_self _) (by omega) (h1) (rfl) (rfl))
  exact zg_lv _ [3, 2, 1, 0] rfl (L22 _ 0 f r _ _ (Nat.lt_succ_self _) (by omega) (h) (rfl) (rfl))
