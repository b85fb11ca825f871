def stt (g : Nat → Nat) (k : Nat) : Nat := if 2 ≤ k ∧ g (k - 2) = 59 then 4 else if 1 ≤ k ∧ g (k - 1) = 59 then 3 else k % 3
def rmy (g : Nat → Nat) (k : Nat) : Nat := if 2 ≤ k ∧ g (k - 2) = 59 then (k - 1) / 3 else (k + 1) / 3
def goB (s m c : Nat) : Bool := if s = 0 then decide (¬ soc c = -1) else if s = 1 then decide (49 ≤ c ∧ c ≤ 52) else if s = 2 then (if c = 44 then decide (m < 6) else decide (c = 59)) else decide (s = 3 ∧ 49 ≤ c ∧ c ≤ 57)
def goF (f : Nat → Int) (s m c : Nat) : Nat → Int := if s = 0 then pu f 3 ((s : Int) + 1) else if s = 1 then pu (pu f 3 ((s : Int) + 1)) 1 ((m : Int) + 1) else if s = 2 then pu (pu f 3 ((s : Int) + 1)) 3 (if c = 44 then 0 else 3) else pu (pu f 3 ((s : Int) + 1)) 2 ((c : Int) - 48)
def goR (r : Nat → Nat → Int) (s m c : Nat) : Nat → Nat → Int := if s = 0 then pu r 1 (pu (r 1) (2 * m) (soc c)) else if s = 1 then pu r 1 (pu (r 1) (2 * m + 1) ((c : Int) - 48)) else r
theorem go_0 {s m c : Nat} {f : Nat → Int} {r : Nat → Nat → Int} (h : s = 0) : goB s m c = decide (¬ soc c = -1) ∧ goF f s m c = pu f 3 ((s : Int) + 1) ∧ goR r s m c = pu r 1 (pu (r 1) (2 * m) (soc c)) := by
  subst h; exact ⟨rfl, rfl, rfl⟩
theorem go_1 {s m c : Nat} {f : Nat → Int} {r : Nat → Nat → Int} (h : s = 1) : goB s m c = decide (49 ≤ c ∧ c ≤ 52) ∧ goF f s m c = pu (pu f 3 ((s : Int) + 1)) 1 ((m : Int) + 1) ∧ goR r s m c = pu r 1 (pu (r 1) (2 * m + 1) ((c : Int) - 48)) := by
  subst h; exact ⟨rfl, rfl, rfl⟩
theorem go_2 {s m c : Nat} {f : Nat → Int} {r : Nat → Nat → Int} (h : s = 2) : goB s m c = (if c = 44 then decide (m < 6) else decide (c = 59)) ∧ goF f s m c = pu (pu f 3 ((s : Int) + 1)) 3 (if c = 44 then 0 else 3) ∧ goR r s m c = r := by
  subst h; exact ⟨rfl, rfl, rfl⟩
theorem go_3 {s m c : Nat} {f : Nat → Int} {r : Nat → Nat → Int} (h : 3 ≤ s) : goB s m c = decide (s = 3 ∧ 49 ≤ c ∧ c ≤ 57) ∧ goF f s m c = pu (pu f 3 ((s : Int) + 1)) 2 ((c : Int) - 48) ∧ goR r s m c = r := by
  unfold goB goF goR
  rw [if_neg (by omega), if_neg (by omega), if_neg (by omega), if_neg (by omega), if_neg (by omega), if_neg (by omega), if_neg (by omega), if_neg (by omega)]
  exact ⟨rfl, rfl, rfl⟩
theorem go_fr (f : Nat → Int) (r : Nat → Nat → Int) (s m c : Nat) : (∀ j, j ≠ 1 → j ≠ 2 → j ≠ 3 → goF f s m c j = f j) ∧ frR r (goR r s m c) := by
  unfold goF goR
  refine ⟨fun j a b d => ?_, ?_⟩
  · split
    · rw [pu_ne _ _ d]
    · split
      · rw [pu_ne _ _ a, pu_ne _ _ d]
      · split
        · rw [pu_ne _ _ d, pu_ne _ _ d]
        · rw [pu_ne _ _ b, pu_ne _ _ d]
  · split
    · exact (frR_rf r).pr 1 _ (by omega)
    · split
      · exact (frR_rf r).pr 1 _ (by omega)
      · exact frR_rf r
theorem go_st (f : Nat → Int) (s m c : Nat) (h : s ≤ 4) : 0 ≤ goF f s m c 3 ∧ goF f s m c 3 ≤ 6 := by
  unfold goF
  split
  · rw [pu_eq]; omega
  · split
    · rw [pu_ne _ _ (by decide), pu_eq]; omega
    · split
      · rw [pu_eq]; split <;> omega
      · rw [pu_ne _ _ (by decide), pu_eq]; omega
/-- what the reader holds ahead of place k, none of the places before it being at fault -/
def pInv (g : Nat → Nat) (k : Nat) (F : Nat → Int) (R : Nat → Nat → Int) : Prop :=
  F 3 = (stt g k : Int) ∧ F 1 = (rmy g k : Int) ∧ (stt g k = 4 → F 2 = (g (k - 1) : Int) - 48) ∧ (∀ b, b < rmy g k → R 1 (2 * b) = soc (g (3 * b)) ∧ R 1 (2 * b + 1) = (g (3 * b + 1) : Int) - 48) ∧ (stt g k = 1 → R 1 (2 * rmy g k) = soc (g (k - 1))) ∧ rmy g k ≤ 6 ∧ (stt g k < 2 → rmy g k ≤ 5) ∧ (stt g k = 3 → k % 3 = 0) ∧ (stt g k = 4 → k % 3 = 1)
theorem pInv_0 (g : Nat → Nat) (f : Nat → Int) (r : Nat → Nat → Int) : pInv g 0 (pu (pu f 1 0) 3 0) r := by
  have a : stt g 0 = 0 := by unfold stt; rw [if_neg (by omega), if_neg (by omega)]
  have b : rmy g 0 = 0 := by unfold rmy; rw [if_neg (by omega)]
  unfold pInv; rw [a, b]
  exact ⟨rfl, rfl, fun z => absurd z (by decide), fun b hb => absurd hb (Nat.not_lt_zero b), fun z => absurd z (by decide), by decide, by decide, fun _ => rfl, fun z => absurd z (by decide)⟩
theorem pInv_step {g : Nat → Nat} {k : Nat} {F : Nat → Int} {R : Nat → Nat → Int} (h : pInv g k F R) : goB (stt g k) (rmy g k) (g k) = okc g k ∧ (okc g k = true → pInv g (k + 1) (goF F (stt g k) (rmy g k) (g k)) (goR R (stt g k) (rmy g k) (g k))) := by
  obtain ⟨i1, i2, i3, i4, i5, i6, i7, i8, i9⟩ := h
  by_cases A : 2 ≤ k ∧ g (k - 2) = 59
  · have s4 : stt g k = 4 := by unfold stt; rw [if_pos A]
    have o : okc g k = false := by unfold okc; rw [if_pos A]
    refine ⟨?_, fun e => absurd (o ▸ e) (by decide)⟩
    rw [s4, o]; rfl
  · have r1 : rmy g k = (k + 1) / 3 := by unfold rmy; rw [if_neg A]
    by_cases Bc : 1 ≤ k ∧ g (k - 1) = 59
    · have s3 : stt g k = 3 := by unfold stt; rw [if_neg A, if_pos Bc]
      have k3 := i8 s3
      have o : okc g k = decide (49 ≤ g k ∧ g k ≤ 57) := by unfold okc; rw [if_neg A, if_pos Bc]
      have A' : 2 ≤ k + 1 ∧ g (k + 1 - 2) = 59 := ⟨by omega, by rw [show k + 1 - 2 = k - 1 by omega]; exact Bc.2⟩
      have s' : stt g (k + 1) = 4 := by unfold stt; rw [if_pos A']
      have r' : rmy g (k + 1) = rmy g k := by rw [r1]; unfold rmy; rw [if_pos A']; omega
      rw [s3, o]
      refine ⟨decide_eq_decide.mpr ⟨fun z => z.2, fun z => ⟨rfl, z⟩⟩, fun e => ?_⟩
      unfold pInv; rw [s', r']
      exact ⟨rfl, i2, fun _ => rfl, i4, fun z => absurd z (by decide), i6, fun z => absurd z (by decide), fun z => absurd z (by decide), fun _ => by omega⟩
    · have sk : stt g k = k % 3 := by unfold stt; rw [if_neg A, if_neg Bc]
      have A' : ¬ (2 ≤ k + 1 ∧ g (k + 1 - 2) = 59) := fun z => Bc ⟨by omega, by rw [show k - 1 = k + 1 - 2 by omega]; exact z.2⟩
      have r' : rmy g (k + 1) = (k + 1 + 1) / 3 := by unfold rmy; rw [if_neg A']
      rcases (by omega : k % 3 = 0 ∨ k % 3 = 1 ∨ k % 3 = 2) with c | c | c
      · have o : okc g k = decide (¬ soc (g k) = -1) := by unfold okc; rw [if_neg A, if_neg Bc, if_pos c]
        have s0 : stt g k = 0 := by omega
        rw [s0, o]
        refine ⟨rfl, fun e => ?_⟩
        have e := of_decide_eq_true e
        have B' : ¬ (1 ≤ k + 1 ∧ g (k + 1 - 1) = 59) := fun z => e (by rw [show g k = 59 from z.2]; decide)
        have s' : stt g (k + 1) = 1 := by unfold stt; rw [if_neg A', if_neg B']; omega
        have r2 : rmy g (k + 1) = rmy g k := by omega
        unfold pInv; rw [s', r2]
        refine ⟨rfl, i2, fun z => absurd z (by decide), fun b hb => ⟨?_, ?_⟩, fun _ => ?_, i6, fun _ => i7 (by omega), fun z => absurd z (by decide), fun z => absurd z (by decide)⟩
        · show pu (R 1) (2 * rmy g k) (soc (g k)) (2 * b) = _
          rw [pu_ne _ _ (by omega)]; exact (i4 b hb).1
        · show pu (R 1) (2 * rmy g k) (soc (g k)) (2 * b + 1) = _
          rw [pu_ne _ _ (by omega)]; exact (i4 b hb).2
        · show pu (R 1) (2 * rmy g k) (soc (g k)) (2 * rmy g k) = soc (g k)
          rw [pu_eq]
      · have o : okc g k = decide (49 ≤ g k ∧ g k ≤ 52) := by unfold okc; rw [if_neg A, if_neg Bc, if_neg (by omega), if_pos c]
        have s0 : stt g k = 1 := by omega
        have i5 := i5 s0
        have i7 := i7 (by omega)
        rw [s0, o]
        refine ⟨rfl, fun e => ?_⟩
        have e := of_decide_eq_true e
        have B' : ¬ (1 ≤ k + 1 ∧ g (k + 1 - 1) = 59) := fun z => by have : g k = 59 := z.2; omega
        have s' : stt g (k + 1) = 2 := by unfold stt; rw [if_neg A', if_neg B']; omega
        have r2 : rmy g (k + 1) = rmy g k + 1 := by omega
        unfold pInv; rw [s', r2]
        refine ⟨rfl, rfl, fun z => absurd z (by decide), fun b hb => ⟨?_, ?_⟩, fun z => absurd z (by decide), by omega, fun z => absurd z (by decide), fun z => absurd z (by decide), fun z => absurd z (by decide)⟩
        · show pu (R 1) (2 * rmy g k + 1) ((g k : Int) - 48) (2 * b) = _
          rw [pu_ne _ _ (by omega)]
          by_cases q : b = rmy g k
          · rw [q, i5, show 3 * rmy g k = k - 1 by omega]
          · exact (i4 b (by omega)).1
        · show pu (R 1) (2 * rmy g k + 1) ((g k : Int) - 48) (2 * b + 1) = _
          by_cases q : b = rmy g k
          · rw [q, pu_eq, show 3 * rmy g k + 1 = k by omega]
          · rw [pu_ne _ _ (by omega)]; exact (i4 b (by omega)).2
      · have o : okc g k = decide (g k = 59 ∨ g k = 44 ∧ k / 3 + 1 < 6) := by unfold okc; rw [if_neg A, if_neg Bc, if_neg (by omega), if_neg (by omega)]
        have s0 : stt g k = 2 := by omega
        rw [s0, o]
        refine ⟨?_, fun e => ?_⟩
        · rw [(go_2 (f := F) (r := R) rfl).1]
          by_cases q : g k = 44
          · rw [if_pos q]; exact decide_eq_decide.mpr (by omega)
          · rw [if_neg q]; exact decide_eq_decide.mpr (by omega)
        · have e := of_decide_eq_true e
          have r2 : rmy g (k + 1) = rmy g k := by omega
          rw [(go_2 (r := R) rfl).2.1, (go_2 (f := F) rfl).2.2]
          by_cases q : g k = 59
          · have s' : stt g (k + 1) = 3 := by unfold stt; rw [if_neg A', if_pos ⟨by omega, q⟩]
            unfold pInv; rw [s', r2, if_neg (by omega)]
            exact ⟨rfl, i2, fun z => absurd z (by decide), i4, fun z => absurd z (by decide), i6, fun z => absurd z (by decide), fun _ => by omega, fun z => absurd z (by decide)⟩
          · have s' : stt g (k + 1) = 0 := by unfold stt; rw [if_neg A', if_neg (fun z => q z.2)]; omega
            unfold pInv; rw [s', r2, if_pos (by omega)]
            exact ⟨rfl, i2, fun z => absurd z (by decide), i4, fun z => absurd z (by decide), i6, fun _ => by omega, fun z => absurd z (by decide), fun z => absurd z (by decide)⟩
theorem ft_pre {g : Nat → Nat} (m i k : Nat) (hi : i ≤ k) (hk : k ≤ i + m) (ho : ∀ j, i ≤ j → j < k → okc g j = true) (he : k < i + m → okc g k = false) : ft g i m = k := by
  induction m generalizing i with
  | zero => simp only [ft]; omega
  | succ m ih =>
    simp only [ft]
    by_cases q : i = k
    · subst q; rw [he (by omega)]; rfl
    · rw [if_pos (ho i (Nat.le_refl _) (by omega))]
      exact ih (i + 1) (by omega) (by omega) (fun j a b => ho j (by omega) b) (fun z => he (by omega))
theorem stt_4 (g : Nat → Nat) (k : Nat) : (stt g k ≤ 4) ∧ (stt g k = 4 ↔ (2 ≤ k ∧ g (k - 2) = 59)) := by
  unfold stt; split
  · next h => exact ⟨by omega, ⟨fun _ => h, fun _ => rfl⟩⟩
  · next h => split
              · exact ⟨by omega, ⟨fun z => absurd z (by decide), fun z => absurd z h⟩⟩
              · exact ⟨by omega, ⟨fun z => by omega, fun z => absurd z h⟩⟩
theorem m_piece {F : Nat → Int} {R R2 : Nat → Nat → Int} {σ : Sg} (h : MRel F R σ) (hI : pInv (sg σ) (sl σ) F R) (hs : stt (sg σ) (sl σ) = 4) (hwf : wfP (sl σ) (sg σ)) (hl : lay 2 12 (R 1) R R2) :
    F 1 = ((min 6 (sl σ / 3) : Nat) : Int) ∧ MRel (pu (pu (pu (pu (pu (pu (pu (pu F 4 (F 1)) 5 (F 2)) 6 0) 7 0) 9 0) 10 0) 8 ((s1 σ : Int) + 1)) 0 0) R2 (0, sg σ, newP (sl σ) (sg σ), ev0, false, sK σ, s1 σ + 1, s2 σ, s3 σ) := by
  obtain ⟨w1, w2, w3, w4, w5, w6⟩ := hwf
  obtain ⟨i1, i2, i3, i4, -, -, -, -, -⟩ := hI
  have hr : rmy (sg σ) (sl σ) = sl σ / 3 := by unfold rmy; rw [if_pos ((stt_4 _ _).2.mp hs)]; omega
  have hb : F 1 = ((min 6 (sl σ / 3) : Nat) : Int) := by rw [i2, hr]; omega
  refine ⟨hb, ?_⟩
  obtain ⟨g1, g2, g3, g4, g5, g6, g7, g8⟩ := h
  refine ⟨⟨rfl, fun k hk => absurd hk (Nat.not_lt_zero k)⟩, ⟨hb, ?_, fun i hi => ?_, fun i hi => ?_⟩, ⟨rfl, rfl, rfl, rfl, fun p hp => absurd hp (Nat.not_lt_zero p), fun p hp => absurd hp (Nat.not_lt_zero p), fun p hp => absurd hp (Nat.not_lt_zero p), fun p hp => absurd hp (Nat.not_lt_zero p), fun p hp => absurd hp (Nat.not_lt_zero p), fun p hp => absurd hp (Nat.not_lt_zero p)⟩, fun z => absurd (show false = true from z) (by decide), rfl, g6, g7, ?_⟩
  · show F 2 = ((min 9 (sg σ (3 * min 6 (sl σ / 3)) - 48) : Nat) : Int)
    rw [i3 hs, show min 6 (sl σ / 3) = sl σ / 3 by omega, show sl σ - 1 = 3 * (sl σ / 3) by omega]; omega
  · have hi : i < min 6 (sl σ / 3) := hi
    show R2 2 (2 * i) = (((max 0 (soc (sg σ (3 * i)))).toNat : Nat) : Int)
    have a := (i4 i (by omega)).1
    have b := soc_rng (sg σ (3 * i))
    have c := w5 i (by omega)
    rw [hl.2 _ (by omega), a]; omega
  · have hi : i < min 6 (sl σ / 3) := hi
    show R2 2 (2 * i + 1) = ((min 4 (sg σ (3 * i + 1) - 48) : Nat) : Int)
    have a := (i4 i (by omega)).2
    have c := w6 i (by omega)
    rw [hl.2 _ (by omega), a]; omega
  · show -1 ≤ F 14 ∧ F 14 ≤ ((s1 σ + 1 : Nat) : Int) ∧ (F 14 = ((s1 σ + 1 : Nat) : Int) ↔ false = true)
    exact ⟨g8.1, by have := g8.2.1; omega, ⟨fun z => by have := g8.2.1; omega, fun z => absurd z (by decide)⟩⟩
theorem sg_X10_sortBy : yX10_sortBy.cls = RX10 ∧ yX10_sortBy.cls ≠ "java/lang/invoke/MethodHandle" ∧ yX10_sortBy.cls ≠ "java/lang/invoke/VarHandle" ∧ (parseMethodDescriptor yX10_sortBy.desc).map (fun d => d.parameters.length) = some 1 := by decide +kernel
theorem sg_X10_go : yX10_go.cls = RX10 ∧ yX10_go.cls ≠ "java/lang/invoke/MethodHandle" ∧ yX10_go.cls ≠ "java/lang/invoke/VarHandle" ∧ (parseMethodDescriptor yX10_go.desc).map (fun d => d.parameters.length) = some 1 := by decide +kernel
theorem sg_X10_faultOf : yX10_faultOf.cls = RX10 ∧ yX10_faultOf.cls ≠ "java/lang/invoke/MethodHandle" ∧ yX10_faultOf.cls ≠ "java/lang/invoke/VarHandle" ∧ (parseMethodDescriptor yX10_faultOf.desc).map (fun d => d.parameters.length) = some 0 := by decide +kernel
theorem sg_X10_fault : yX10_fault.cls = RX10 ∧ yX10_fault.cls ≠ "java/lang/invoke/MethodHandle" ∧ yX10_fault.cls ≠ "java/lang/invoke/VarHandle" ∧ (parseMethodDescriptor yX10_fault.desc).map (fun d => d.parameters.length) = some 0 := by decide +kernel
theorem sg_X10_piece : yX10_piece.cls = RX10 ∧ yX10_piece.cls ≠ "java/lang/invoke/MethodHandle" ∧ yX10_piece.cls ≠ "java/lang/invoke/VarHandle" ∧ (parseMethodDescriptor yX10_piece.desc).map (fun d => d.parameters.length) = some 0 := by decide +kernel
-- Model.sortBy
set_option maxRecDepth 20000 in
theorem c_X10_sortBy (l : Launch) (D : va_G) (cI : ClassId) (W0 : va_W) (c : Nat) (hc : c ≤ 126) : Cn l D cI yX10_sortBy cX10_sortBy 1 (some .int) 0 0 0 [.int (zI (c : Int))] W0 (pI (soc c) W0) := by
  refine Cn.of [(0, .int (zI (c : Int)))] (by decide +kernel) (Nat.le_of_ble_eq_true rfl) rfl (fun X hX hR => ?_)
  refine zg_iload_n hX 0 rfl dX10_sortBy_0 rfl 1 rfl ?_
  refine zg_bipush hX dX10_sortBy_1 3 rfl (by decide) ?_
  refine zg_icmp_ne hX (by omega) (by omega) dX10_sortBy_3 10 (by decide) 6 rfl (fun h3 => ?_) (fun h3 => ?_)
  · refine zg_iload_n hX 0 rfl dX10_sortBy_10 rfl 11 rfl ?_
    refine zg_bipush hX dX10_sortBy_11 13 rfl (by decide) ?_
    refine zg_icmp_ne hX (by omega) (by omega) dX10_sortBy_13 20 (by decide) 16 rfl (fun h13 => ?_) (fun h13 => ?_)
    · refine zg_iload_n hX 0 rfl dX10_sortBy_20 rfl 21 rfl ?_
      refine zg_bipush hX dX10_sortBy_21 23 rfl (by decide) ?_
      refine zg_icmp_ne hX (by omega) (by omega) dX10_sortBy_23 30 (by decide) 26 rfl (fun h23 => ?_) (fun h23 => ?_)
      · refine zg_iload_n hX 0 rfl dX10_sortBy_30 rfl 31 rfl ?_
        refine zg_bipush hX dX10_sortBy_31 33 rfl (by decide) ?_
        refine zg_icmp_ne hX (by omega) (by omega) dX10_sortBy_33 40 (by decide) 36 rfl (fun h33 => ?_) (fun h33 => ?_)
        · refine zg_iconst hX dX10_sortBy_40 41 rfl ?_
          exact zg_iret hX hR (Nat.le_refl _) (Nat.le_refl _) rfl dX10_sortBy_41 (pI_of (by unfold soc; repeat (first | rw [if_pos (by omega)] | rw [if_neg (by omega)])))
        · refine zg_iconst hX dX10_sortBy_36 37 rfl ?_
          refine zg_goto hX dX10_sortBy_37 41 (by decide) ?_
          exact zg_iret hX hR (Nat.le_refl _) (Nat.le_refl _) rfl dX10_sortBy_41 (pI_of (by unfold soc; repeat (first | rw [if_pos (by omega)] | rw [if_neg (by omega)])))
      · refine zg_iconst hX dX10_sortBy_26 27 rfl ?_
        refine zg_goto hX dX10_sortBy_27 41 (by decide) ?_
        exact zg_iret hX hR (Nat.le_refl _) (Nat.le_refl _) rfl dX10_sortBy_41 (pI_of (by unfold soc; repeat (first | rw [if_pos (by omega)] | rw [if_neg (by omega)])))
    · refine zg_iconst hX dX10_sortBy_16 17 rfl ?_
      refine zg_goto hX dX10_sortBy_17 41 (by decide) ?_
      exact zg_iret hX hR (Nat.le_refl _) (Nat.le_refl _) rfl dX10_sortBy_41 (pI_of (by unfold soc; repeat (first | rw [if_pos (by omega)] | rw [if_neg (by omega)])))
  · refine zg_iconst hX dX10_sortBy_6 7 rfl ?_
    refine zg_goto hX dX10_sortBy_7 41 (by decide) ?_
    exact zg_iret hX hR (Nat.le_refl _) (Nat.le_refl _) rfl dX10_sortBy_41 (pI_of (by unfold soc; repeat (first | rw [if_pos (by omega)] | rw [if_neg (by omega)])))
-- Model.go
set_option maxRecDepth 20000 in
theorem c_X10_go (l : Launch) (D : va_G) (cI : ClassId) (q : Nat → Nat) (f : Nat → Int) (r : Nat → Nat → Int) (s m c : Nat) (h3 : f 3 = (s : Int)) (h1 : f 1 = (m : Int)) (hs : s ≤ 4) (hm : m ≤ 6) (hm5 : s < 2 → m ≤ 5) (hc : c ≤ 126) : Cn l D cI yX10_go cX10_go 4 (some .boolean) 1 0 0 [.ref (q 0), .int (zI (c : Int))] (mW cI q f r) (pW (some (.int (zI (b2 (goB s m c))))) (mW cI q (goF f s m c) (goR r s m c))) := by
  refine Cn.of [(0, .ref (q 0)), (1, .int (zI (c : Int)))] (by decide +kernel) (Nat.le_of_ble_eq_true rfl) rfl (fun X hX hR => ?_)
  refine zg_iload_n hX 1 rfl dX10_go_0 rfl 1 rfl ?_
  refine zg_bipush hX dX10_go_1 3 rfl (by decide) ?_
  refine zg_isub hX dX10_go_3 4 rfl ?_
  refine zg_istore_n hX [(2, .int (zI ((c : Int) - 48))), (0, .ref (q 0)), (1, .int (zI (c : Int)))] dX10_go_4 rfl (by decide) rfl 5 rfl ?_
  refine zg_aload_n hX 1 rfl dX10_go_5 rfl 6 rfl ?_
  refine mg_0_5 hX mw_646 (s : Int) h3 dX10_go_6 9 rfl ?_
  refine zg_istore_n hX [(3, .int (zI (s : Int))), (2, .int (zI ((c : Int) - 48))), (0, .ref (q 0)), (1, .int (zI (c : Int)))] dX10_go_9 rfl (by decide) rfl 10 rfl ?_
  refine zg_aload_n hX 2 rfl dX10_go_10 rfl 11 rfl ?_
  refine zg_dup hX rfl dX10_go_11 12 rfl ?_
  refine mg_0_5 hX mw_646 (s : Int) h3 dX10_go_12 15 rfl ?_
  refine zg_iconst hX dX10_go_15 16 rfl ?_
  refine zg_iadd hX dX10_go_16 17 rfl ?_
  refine mp_0_5 hX mw_646 dX10_go_17 20 rfl ?_
  refine zg_iload_n hX 0 rfl dX10_go_20 rfl 21 rfl ?_
  refine zg_if_ne hX (by omega) dX10_go_21 53 (by decide) 24 rfl (fun h21 => ?_) (fun h21 => ?_)
  · refine zg_iload_n hX 0 rfl dX10_go_53 rfl 54 rfl ?_
    refine zg_iconst hX dX10_go_54 55 rfl ?_
    refine zg_icmp_ne hX (by omega) (by omega) dX10_go_55 92 (by decide) 58 rfl (fun h55 => ?_) (fun h55 => ?_)
    · refine zg_iload_n hX 0 rfl dX10_go_92 rfl 93 rfl ?_
      refine zg_iconst hX dX10_go_93 94 rfl ?_
      refine zg_icmp_ne hX (by omega) (by omega) dX10_go_94 147 (by decide) 97 rfl (fun h94 => ?_) (fun h94 => ?_)
      · refine zg_aload_n hX 2 rfl dX10_go_147 rfl 148 rfl ?_
        refine zg_iload_n hX 1 rfl dX10_go_148 rfl 149 rfl ?_
        refine mp_0_4 hX mw_645 dX10_go_149 152 rfl ?_
        refine zg_iload_n hX 0 rfl dX10_go_152 rfl 153 rfl ?_
        refine zg_iconst hX dX10_go_153 154 rfl ?_
        refine zg_icmp_ne hX (by omega) (by omega) dX10_go_154 173 (by decide) 157 rfl (fun h154 => ?_) (fun h154 => ?_)
        · refine zg_iconst hX dX10_go_173 174 rfl ?_
          exact zg_zret hX hR (Nat.le_refl _) (Nat.le_refl _) (by decide) rfl dX10_go_174 (⟨by rw [(go_3 (f := f) (r := r) (by omega)).1]; first | (rw [decide_eq_true (by omega)]; rfl) | (rw [decide_eq_false (by omega)]; rfl), by rw [(go_3 (r := r) (by omega)).2.1, (go_3 (f := f) (by omega)).2.2]⟩)
        · refine zg_iload_n hX 1 rfl dX10_go_157 rfl 158 rfl ?_
          refine zg_i2l hX (by omega) dX10_go_158 159 rfl ?_
          refine zg_lconst (a := 1) hX (by decide) dX10_go_159 160 rfl ?_
          refine zg_ldc2 (a := 9) hX mw_769 (by decide) dX10_go_160 163 rfl ?_
          refine zg_callSi (As := [.long (zL ((c : Int) - 48)), .long (zL 1), .long (zL 9)]) (rest := []) hX (c_X10_in l D cI _ ((c : Int) - 48) 1 9 (by omega) (by omega) (by omega)) mw_746 mw_747 mw_10 mw_748 sg_X10_in.2 (by decide) (by decide) (Nat.le_refl _) (Nat.le_refl _) rfl (Nat.le_of_ble_eq_true rfl) dX10_go_163 166 rfl ?_
          refine zg_ifb_eq hX dX10_go_166 173 (by decide) 169 rfl (fun h166 => ?_) (fun h166 => ?_)
          · have h166a := of_decide_eq_false h166
            refine zg_iconst hX dX10_go_173 174 rfl ?_
            exact zg_zret hX hR (Nat.le_refl _) (Nat.le_refl _) (by decide) rfl dX10_go_174 (⟨by rw [(go_3 (f := f) (r := r) (by omega)).1]; first | (rw [decide_eq_true (by omega)]; rfl) | (rw [decide_eq_false (by omega)]; rfl), by rw [(go_3 (r := r) (by omega)).2.1, (go_3 (f := f) (by omega)).2.2]⟩)
          · have h166a := of_decide_eq_true h166
            refine zg_iconst hX dX10_go_169 170 rfl ?_
            refine zg_goto hX dX10_go_170 174 (by decide) ?_
            exact zg_zret hX hR (Nat.le_refl _) (Nat.le_refl _) (by decide) rfl dX10_go_174 (⟨by rw [(go_3 (f := f) (r := r) (by omega)).1]; first | (rw [decide_eq_true (by omega)]; rfl) | (rw [decide_eq_false (by omega)]; rfl), by rw [(go_3 (r := r) (by omega)).2.1, (go_3 (f := f) (by omega)).2.2]⟩)
      · refine zg_aload_n hX 2 rfl dX10_go_97 rfl 98 rfl ?_
        refine zg_iload_n hX 3 rfl dX10_go_98 rfl 99 rfl ?_
        refine zg_bipush hX dX10_go_99 101 rfl (by decide) ?_
        have J109 : ∀ xj : Int, xj = (if c = 44 then (0 : Int) else 3) → G X 4 0 0 (mW cI q (pu f 3 ((s : Int) + 1)) r) [(3, .int (zI (s : Int))), (2, .int (zI ((c : Int) - 48))), (0, .ref (q 0)), (1, .int (zI (c : Int)))] 109 [.int (zI xj), .ref (q 0)] := by
          intro xj hx109
          subst hx109
          refine mp_0_5 hX mw_646 dX10_go_109 112 rfl ?_
          refine zg_iload_n hX 3 rfl dX10_go_112 rfl 113 rfl ?_
          refine zg_bipush hX dX10_go_113 115 rfl (by decide) ?_
          refine zg_icmp_ne hX (by omega) (by omega) dX10_go_115 135 (by decide) 118 rfl (fun h115 => ?_) (fun h115 => ?_)
          · refine zg_iload_n hX 3 rfl dX10_go_135 rfl 136 rfl ?_
            refine zg_bipush hX dX10_go_136 138 rfl (by decide) ?_
            refine zg_icmp_ne hX (by omega) (by omega) dX10_go_138 145 (by decide) 141 rfl (fun h138 => ?_) (fun h138 => ?_)
            · refine zg_iconst hX dX10_go_145 146 rfl ?_
              exact zg_zret hX hR (Nat.le_refl _) (Nat.le_refl _) (by decide) rfl dX10_go_146 (⟨by rw [(go_2 (f := f) (r := r) (by omega)).1]; first | (rw [if_pos (by omega)]; first | (rw [decide_eq_true (by omega)]; rfl) | (rw [decide_eq_false (by omega)]; rfl)) | (rw [if_neg (by omega)]; first | (rw [decide_eq_true (by omega)]; rfl) | (rw [decide_eq_false (by omega)]; rfl)), by rw [(go_2 (r := r) (by omega)).2.1, (go_2 (f := f) (by omega)).2.2]⟩)
            · refine zg_iconst hX dX10_go_141 142 rfl ?_
              refine zg_goto hX dX10_go_142 146 (by decide) ?_
              exact zg_zret hX hR (Nat.le_refl _) (Nat.le_refl _) (by decide) rfl dX10_go_146 (⟨by rw [(go_2 (f := f) (r := r) (by omega)).1]; first | (rw [if_pos (by omega)]; first | (rw [decide_eq_true (by omega)]; rfl) | (rw [decide_eq_false (by omega)]; rfl)) | (rw [if_neg (by omega)]; first | (rw [decide_eq_true (by omega)]; rfl) | (rw [decide_eq_false (by omega)]; rfl)), by rw [(go_2 (r := r) (by omega)).2.1, (go_2 (f := f) (by omega)).2.2]⟩)
          · refine zg_aload_n hX 2 rfl dX10_go_118 rfl 119 rfl ?_
            refine mg_0_3 hX mw_644 (m : Int) h1 dX10_go_119 122 rfl ?_
            refine zg_bipush hX dX10_go_122 124 rfl (by decide) ?_
            refine zg_icmp_ge hX (by omega) (by omega) dX10_go_124 131 (by decide) 127 rfl (fun h124 => ?_) (fun h124 => ?_)
            · refine zg_iconst hX dX10_go_131 132 rfl ?_
              refine zg_goto hX dX10_go_132 146 (by decide) ?_
              exact zg_zret hX hR (Nat.le_refl _) (Nat.le_refl _) (by decide) rfl dX10_go_146 (⟨by rw [(go_2 (f := f) (r := r) (by omega)).1]; first | (rw [if_pos (by omega)]; first | (rw [decide_eq_true (by omega)]; rfl) | (rw [decide_eq_false (by omega)]; rfl)) | (rw [if_neg (by omega)]; first | (rw [decide_eq_true (by omega)]; rfl) | (rw [decide_eq_false (by omega)]; rfl)), by rw [(go_2 (r := r) (by omega)).2.1, (go_2 (f := f) (by omega)).2.2]⟩)
            · refine zg_iconst hX dX10_go_127 128 rfl ?_
              refine zg_goto hX dX10_go_128 146 (by decide) ?_
              exact zg_zret hX hR (Nat.le_refl _) (Nat.le_refl _) (by decide) rfl dX10_go_146 (⟨by rw [(go_2 (f := f) (r := r) (by omega)).1]; first | (rw [if_pos (by omega)]; first | (rw [decide_eq_true (by omega)]; rfl) | (rw [decide_eq_false (by omega)]; rfl)) | (rw [if_neg (by omega)]; first | (rw [decide_eq_true (by omega)]; rfl) | (rw [decide_eq_false (by omega)]; rfl)), by rw [(go_2 (r := r) (by omega)).2.1, (go_2 (f := f) (by omega)).2.2]⟩)
        refine zg_icmp_ne hX (by omega) (by omega) dX10_go_101 108 (by decide) 104 rfl (fun h101 => ?_) (fun h101 => ?_)
        · refine zg_iconst hX dX10_go_108 109 rfl ?_
          exact J109 _ (by first | (rw [if_pos (by omega)]; done) | (rw [if_neg (by omega)]; done))
        · refine zg_iconst hX dX10_go_104 105 rfl ?_
          refine zg_goto hX dX10_go_105 109 (by decide) ?_
          exact J109 _ (by first | (rw [if_pos (by omega)]; done) | (rw [if_neg (by omega)]; done))
    · have hm6 := hm5 (by omega)
      refine zg_aload_n hX 2 rfl dX10_go_58 rfl 59 rfl ?_
      refine mg_0_2 hX mw_643 dX10_go_59 62 rfl ?_
      refine zg_iconst hX dX10_go_62 63 rfl ?_
      refine zg_aload_n hX 2 rfl dX10_go_63 rfl 64 rfl ?_
      refine mg_0_3 hX mw_644 (m : Int) h1 dX10_go_64 67 rfl ?_
      refine zg_imul hX dX10_go_67 68 rfl ?_
      refine zg_iconst hX dX10_go_68 69 rfl ?_
      refine zg_iadd hX dX10_go_69 70 rfl ?_
      refine zg_iload_n hX 1 rfl dX10_go_70 rfl 71 rfl ?_
      refine ms_2 hX (2 * m + 1) (by omega) (by omega) dX10_go_71 72 rfl ?_
      refine zg_aload_n hX 2 rfl dX10_go_72 rfl 73 rfl ?_
      refine zg_dup hX rfl dX10_go_73 74 rfl ?_
      refine mg_0_3 hX mw_644 (m : Int) h1 dX10_go_74 77 rfl ?_
      refine zg_iconst hX dX10_go_77 78 rfl ?_
      refine zg_iadd hX dX10_go_78 79 rfl ?_
      refine mp_0_3 hX mw_644 dX10_go_79 82 rfl ?_
      refine zg_iload_n hX 1 rfl dX10_go_82 rfl 83 rfl ?_
      refine zg_i2l hX (by omega) dX10_go_83 84 rfl ?_
      refine zg_lconst (a := 1) hX (by decide) dX10_go_84 85 rfl ?_
      refine zg_ldc2 (a := 4) hX mw_768 (by decide) dX10_go_85 88 rfl ?_
      refine zg_callSi (As := [.long (zL ((c : Int) - 48)), .long (zL 1), .long (zL 4)]) (rest := []) hX (c_X10_in l D cI _ ((c : Int) - 48) 1 4 (by omega) (by omega) (by omega)) mw_746 mw_747 mw_10 mw_748 sg_X10_in.2 (by decide) (by decide) (Nat.le_refl _) (Nat.le_refl _) rfl (Nat.le_of_ble_eq_true rfl) dX10_go_88 91 rfl ?_
      exact zg_zret hX hR (Nat.le_refl _) (Nat.le_refl _) (by cases decide (1 ≤ (c : Int) - 48 ∧ (c : Int) - 48 ≤ 4) <;> decide) rfl dX10_go_91 (⟨by rw [(go_1 (f := f) (r := r) (by omega)).1]; rw [show decide (49 ≤ c ∧ c ≤ 52) = decide (1 ≤ (c : Int) - 48 ∧ (c : Int) - 48 ≤ 4) from decide_eq_decide.mpr (by omega)], by rw [(go_1 (r := r) (by omega)).2.1, (go_1 (f := f) (by omega)).2.2]⟩)
  · have hm6 := hm5 (by omega)
    refine zg_aload_n hX 2 rfl dX10_go_24 rfl 25 rfl ?_
    refine mg_0_2 hX mw_643 dX10_go_25 28 rfl ?_
    refine zg_iconst hX dX10_go_28 29 rfl ?_
    refine zg_aload_n hX 2 rfl dX10_go_29 rfl 30 rfl ?_
    refine mg_0_3 hX mw_644 (m : Int) h1 dX10_go_30 33 rfl ?_
    refine zg_imul hX dX10_go_33 34 rfl ?_
    refine zg_iload_n hX 3 rfl dX10_go_34 rfl 35 rfl ?_
    refine zg_callSi (As := [.int (zI (c : Int))]) (rest := [.int (zI (2 * (m : Int))), .ref (q 2)]) hX (c_X10_sortBy l D cI _ c hc) mw_765 mw_766 mw_10 mw_767 sg_X10_sortBy.2 (by decide) (by decide) (Nat.le_refl _) (Nat.le_refl _) rfl (Nat.le_of_ble_eq_true rfl) dX10_go_35 38 rfl ?_
    refine ms_2 hX (2 * m) (by omega) (by omega) dX10_go_38 39 rfl ?_
    refine zg_iload_n hX 3 rfl dX10_go_39 rfl 40 rfl ?_
    refine zg_callSi (As := [.int (zI (c : Int))]) (rest := []) hX (c_X10_sortBy l D cI _ c hc) mw_765 mw_766 mw_10 mw_767 sg_X10_sortBy.2 (by decide) (by decide) (Nat.le_refl _) (Nat.le_refl _) rfl (Nat.le_of_ble_eq_true rfl) dX10_go_40 43 rfl ?_
    have hso := soc_rng c
    refine zg_iconst hX dX10_go_43 44 rfl ?_
    refine zg_icmp_eq hX (by omega) (by omega) dX10_go_44 51 (by decide) 47 rfl (fun h44 => ?_) (fun h44 => ?_)
    · refine zg_iconst hX dX10_go_51 52 rfl ?_
      exact zg_zret hX hR (Nat.le_refl _) (Nat.le_refl _) (by decide) rfl dX10_go_52 (⟨by rw [(go_0 (f := f) (r := r) (by omega)).1]; first | (rw [decide_eq_true (by omega)]; rfl) | (rw [decide_eq_false (by omega)]; rfl), by rw [(go_0 (r := r) (by omega)).2.1, (go_0 (f := f) (by omega)).2.2]⟩)
    · refine zg_iconst hX dX10_go_47 48 rfl ?_
      refine zg_goto hX dX10_go_48 52 (by decide) ?_
      exact zg_zret hX hR (Nat.le_refl _) (Nat.le_refl _) (by decide) rfl dX10_go_52 (⟨by rw [(go_0 (f := f) (r := r) (by omega)).1]; first | (rw [decide_eq_true (by omega)]; rfl) | (rw [decide_eq_false (by omega)]; rfl), by rw [(go_0 (r := r) (by omega)).2.1, (go_0 (f := f) (by omega)).2.2]⟩)
-- Model.faultOf
set_option maxRecDepth 20000 in
theorem c_X10_faultOf (l : Launch) (D : va_G) (cI : ClassId) (q : Nat → Nat) (f : Nat → Int) (r : Nat → Nat → Int) (σ : Sg) (B : Nat)  (hσ : sOK σ B) (hB : B ≤ 100) (h : MRel f r σ) : Cn l D cI yX10_faultOf cX10_faultOf 2 (some .int) 2 0 0 [.ref (q 0)] (mW cI q f r) (pC (mW cI q) (fun v f1 r1 => v = some (.int (zI (ft (sg σ) 0 (sl σ) : Int))) ∧ (∀ j, j ≠ 1 → j ≠ 2 → j ≠ 3 → f1 j = f j) ∧ frR r r1 ∧ (0 ≤ f1 3 ∧ f1 3 ≤ 6) ∧ (ft (sg σ) 0 (sl σ) = sl σ → pInv (sg σ) (sl σ) f1 r1))) := by
  refine Cn.of [(0, .ref (q 0))] (by decide +kernel) (Nat.le_of_ble_eq_true rfl) rfl (fun X hX hR => ?_)
  have hsl := hσ.1
  have hg6 := hσ.2.1
  have hP := hσ.2.2.1
  have hE := hσ.2.2.2.1
  have hpb6 := hP.1
  have hpL9 := hP.2.1
  have hn4 := hE.1
  have hT6 := hE.2.2.2.2.1
  have hep := hE.2.2.2.2.2.2.2
  have hbk := hE.2.2.2.2.2.2.1
  have hs1 := hσ.2.2.2.2.2.1
  have hs2 := hσ.2.2.2.2.2.2.1
  have hs3 := hσ.2.2.2.2.2.2.2.1
  have hbd := hσ.2.2.2.2.2.2.2.2.1
  have hρ : RuOK (sr σ) := rho_OK hP hE
  have ht : tk (sr σ) (st σ) := rho_tk hE
  have hrb : rb (sr σ) = pb (sP σ) := rfl
  have hrn : rn (sr σ) = en (sE σ) := rfl
  have hrl : rl (sr σ) = pL (sP σ) := rfl
  have hm : mR f r (sr σ) := mR_of h.2.1 h.2.2.1
  refine zg_aload_n hX 0 rfl dX10_faultOf_0 rfl 1 rfl ?_
  refine zg_iconst hX dX10_faultOf_1 2 rfl ?_
  refine mp_0_3 hX mw_644 dX10_faultOf_2 5 rfl ?_
  refine zg_aload_n hX 0 rfl dX10_faultOf_5 rfl 6 rfl ?_
  refine zg_iconst hX dX10_faultOf_6 7 rfl ?_
  refine mp_0_5 hX mw_646 dX10_faultOf_7 10 rfl ?_
  refine zg_iconst hX dX10_faultOf_10 11 rfl ?_
  refine zg_istore_n hX [(1, .int (zI 0)), (0, .ref (q 0))] dX10_faultOf_11 rfl (by decide) rfl 12 rfl ?_
  have L12 : ∀ (fuel : Nat) (k : Nat) (F1 : Nat → Int) (R1 : Nat → Nat → Int) (x12_1 : Int), (sl σ - k < fuel) → (k ≤ sl σ) → (∀ j, 0 ≤ j → j < k → okc (sg σ) j = true) → (pInv (sg σ) k F1 R1) → (∀ j, j ≠ 1 → j ≠ 2 → j ≠ 3 → F1 j = f j) → (frR r R1) → (0 ≤ F1 3 ∧ F1 3 ≤ 6) → x12_1 = (k : Int) → G X 2 0 0 (mW cI q F1 R1) [(0, .ref (q 0)), (1, .int (zI x12_1))] 12 [] := by
    intro fuel
    induction fuel with
    | zero =>
      intro k F1 R1 x12_1 hm12
      exact absurd hm12 (Nat.not_lt_zero _)
    | succ fuel ih12 =>
      intro k F1 R1 x12_1 hm12 hk hok hI hF hx h36 ex12_1
      subst ex12_1
      refine zg_iload_n hX 1 rfl dX10_faultOf_12 rfl 13 rfl ?_
      refine zg_aload_n hX 0 rfl dX10_faultOf_13 rfl 14 rfl ?_
      refine mg_0_1 hX mw_642 (sl σ : Int) ((hF 0 (by decide) (by decide) (by decide)).trans h.1.1) dX10_faultOf_14 17 rfl ?_
      refine zg_icmp_ge hX (by omega) (by omega) dX10_faultOf_17 39 (by decide) 20 rfl (fun h17 => ?_) (fun h17 => ?_)
      · refine zg_iload_n hX 1 rfl dX10_faultOf_39 rfl 40 rfl ?_
        exact zg_iret hX hR (Nat.le_refl _) (Nat.le_refl _) rfl dX10_faultOf_40 (by first | exact ⟨_, _, rfl, by rw [ft_pre (g := sg σ) (sl σ) 0 k (by omega) (by omega) hok (fun z => absurd z (by omega))], hF, hx, h36, fun _ => by rw [show sl σ = k by omega]; exact hI⟩ | exact ⟨_, _, rfl, by rw [ft_pre (g := sg σ) (sl σ) 0 k (by omega) (by omega) hok (fun _ => hokk)], fun j a b c => (hgf.1 j a b c).trans (hF j a b c), hx.tr hgf.2, hgs, fun z => absurd ((ft_pre (g := sg σ) (sl σ) 0 k (by omega) (by omega) hok (fun _ => hokk)).symm.trans z) (by omega)⟩)
      · refine zg_aload_n hX 0 rfl dX10_faultOf_20 rfl 21 rfl ?_
        refine zg_aload_n hX 0 rfl dX10_faultOf_21 rfl 22 rfl ?_
        refine mg_0_0 hX mw_641 dX10_faultOf_22 25 rfl ?_
        refine zg_iload_n hX 1 rfl dX10_faultOf_25 rfl 26 rfl ?_
        refine ma_1 hX k (sg σ k : Int) (by omega) (by omega) (hx.at 0 (by omega) ▸ h.1.2 k (by omega) : R1 0 k = (sg σ k : Int)) dX10_faultOf_26 27 rfl ?_
        have hst := (stt_4 (sg σ) k).1
        have hgk := hg6 k
        have hstep := pInv_step hI
        have hgf := go_fr F1 R1 (stt (sg σ) k) (rmy (sg σ) k) (sg σ k)
        have hgs := go_st F1 (stt (sg σ) k) (rmy (sg σ) k) (sg σ k) hst
        refine zg_callV (As := [.int (zI (sg σ k : Int))]) (rest := []) (k0 := 0) (ci := 9) hX (c_X10_go l D cI q F1 R1 (stt (sg σ) k) (rmy (sg σ) k) (sg σ k) hI.1 hI.2.1 hst hI.2.2.2.2.2.1 hI.2.2.2.2.2.2.1 hgk) mw_761 mw_763 mw_s13 mw_10 mw_764 sg_X10_go (by decide) (by decide) (Nat.le_refl _) (Nat.le_refl _) rfl rfl rfl (Nat.le_of_ble_eq_true rfl) dX10_faultOf_27 30 rfl (fun v27 W27 hp27 => ?_)
        obtain ⟨rfl, rfl⟩ := hp27
        show G X 2 0 0 (mW cI q (goF F1 (stt (sg σ) k) (rmy (sg σ) k) (sg σ k)) (goR R1 (stt (sg σ) k) (rmy (sg σ) k) (sg σ k))) [(0, .ref (q 0)), (1, .int (zI (k : Int)))] 30 [.int (zI (b2 (goB (stt (sg σ) k) (rmy (sg σ) k) (sg σ k))))]
        refine zg_ifb_eq hX dX10_faultOf_30 39 (by decide) 33 rfl (fun h30 => ?_) (fun h30 => ?_)
        · have hokk : okc (sg σ) k = false := hstep.1 ▸ h30
          refine zg_iload_n hX 1 rfl dX10_faultOf_39 rfl 40 rfl ?_
          exact zg_iret hX hR (Nat.le_refl _) (Nat.le_refl _) rfl dX10_faultOf_40 (by first | exact ⟨_, _, rfl, by rw [ft_pre (g := sg σ) (sl σ) 0 k (by omega) (by omega) hok (fun z => absurd z (by omega))], hF, hx, h36, fun _ => by rw [show sl σ = k by omega]; exact hI⟩ | exact ⟨_, _, rfl, by rw [ft_pre (g := sg σ) (sl σ) 0 k (by omega) (by omega) hok (fun _ => hokk)], fun j a b c => (hgf.1 j a b c).trans (hF j a b c), hx.tr hgf.2, hgs, fun z => absurd ((ft_pre (g := sg σ) (sl σ) 0 k (by omega) (by omega) hok (fun _ => hokk)).symm.trans z) (by omega)⟩)
        · have hokk : okc (sg σ) k = true := hstep.1 ▸ h30
          refine zg_iinc hX [(1, .int (zI ((k : Int) + 1))), (0, .ref (q 0))] 1 rfl dX10_faultOf_33 (by decide) rfl 36 rfl ?_
          refine zg_goto hX dX10_faultOf_36 12 (by decide) ?_
          exact zg_lv _ [1, 0] rfl (ih12 (k + 1) (goF F1 (stt (sg σ) k) (rmy (sg σ) k) (sg σ k)) (goR R1 (stt (sg σ) k) (rmy (sg σ) k) (sg σ k)) _ (by omega) (by omega) (fun j _ hj => by
              by_cases e : j = k
              · rw [e]; exact hokk
              · exact hok j (Nat.zero_le _) (by omega)) (hstep.2 hokk) (fun j a b c => (hgf.1 j a b c).trans (hF j a b c)) (hx.tr hgf.2) (hgs) (by omega))
  exact zg_lv _ [1, 0] rfl (L12 _ 0 (pu (pu f 1 0) 3 0) r _ (Nat.lt_succ_self _) (by omega) (fun j _ hj => absurd hj (Nat.not_lt_zero j)) (pInv_0 _ _ _) (fun j a _ c => by rw [pu_ne _ _ c, pu_ne _ _ a]) (frR_rf r) (⟨(by decide : (0 : Int) ≤ 0), (by decide : (0 : Int) ≤ 6)⟩) (rfl))
-- Model.fault
set_option maxRecDepth 20000 in
theorem c_X10_fault (l : Launch) (D : va_G) (cI : ClassId) (q : Nat → Nat) (f : Nat → Int) (r : Nat → Nat → Int) (σ : Sg) (B : Nat)  (hσ : sOK σ B) (hB : B ≤ 100) (h : MRel f r σ) : Cn l D cI yX10_fault cX10_fault 1 (some .int) 3 0 0 [.ref (q 0)] (mW cI q f r) (qM cI q (o_fault σ)) := by
  refine Cn.of [(0, .ref (q 0))] (by decide +kernel) (Nat.le_of_ble_eq_true rfl) rfl (fun X hX hR => ?_)
  have hsl := hσ.1
  have hg6 := hσ.2.1
  have hP := hσ.2.2.1
  have hE := hσ.2.2.2.1
  have hpb6 := hP.1
  have hpL9 := hP.2.1
  have hn4 := hE.1
  have hT6 := hE.2.2.2.2.1
  have hep := hE.2.2.2.2.2.2.2
  have hbk := hE.2.2.2.2.2.2.1
  have hs1 := hσ.2.2.2.2.2.1
  have hs2 := hσ.2.2.2.2.2.2.1
  have hs3 := hσ.2.2.2.2.2.2.2.1
  have hbd := hσ.2.2.2.2.2.2.2.2.1
  have hρ : RuOK (sr σ) := rho_OK hP hE
  have ht : tk (sr σ) (st σ) := rho_tk hE
  have hrb : rb (sr σ) = pb (sP σ) := rfl
  have hrn : rn (sr σ) = en (sE σ) := rfl
  have hrl : rl (sr σ) = pL (sP σ) := rfl
  have hm : mR f r (sr σ) := mR_of h.2.1 h.2.2.1
  refine zg_aload_n hX 0 rfl dX10_fault_0 rfl 1 rfl ?_
  refine zg_callV (As := []) (rest := []) (k0 := 0) (ci := 9) hX (c_X10_faultOf l D cI q f r σ B hσ hB h) mw_757 mw_759 mw_s12 mw_10 mw_760 sg_X10_faultOf (by decide) (by decide) (Nat.le_refl _) (Nat.le_refl _) rfl rfl rfl (Nat.le_of_ble_eq_true rfl) dX10_fault_1 4 rfl (fun v1 W1 hp1 => ?_)
  obtain ⟨F1, R1, rfl, rfl, hF1, hx1, h36, hI1⟩ := hp1
  show G X 1 0 0 (mW cI q F1 R1) [(0, .ref (q 0))] 4 [.int (zI (ft (sg σ) 0 (sl σ) : Int))]
  have hr1 : MRel F1 R1 σ := MRel_f (MRel_r h hx1) (fun j a b c _ _ => hF1 j a b c)
  have hfr := ft_rng (sg σ) 0 (sl σ)
  exact zg_iret hX hR (Nat.le_refl _) (Nat.le_refl _) rfl dX10_fault_4 (qM_ret rfl hr1)
-- Model.piece
set_option maxRecDepth 20000 in
theorem c_X10_piece (l : Launch) (D : va_G) (cI : ClassId) (q : Nat → Nat) (f : Nat → Int) (r : Nat → Nat → Int) (σ : Sg) (B : Nat)  (hσ : sOK σ B) (hB : B ≤ 100) (h : MRel f r σ) : Cn l D cI yX10_piece cX10_piece 1 (some .int) 3 0 0 [.ref (q 0)] (mW cI q f r) (qM cI q (o_piece σ)) := by
  refine Cn.of [(0, .ref (q 0))] (by decide +kernel) (Nat.le_of_ble_eq_true rfl) rfl (fun X hX hR => ?_)
  have hsl := hσ.1
  have hg6 := hσ.2.1
  have hP := hσ.2.2.1
  have hE := hσ.2.2.2.1
  have hpb6 := hP.1
  have hpL9 := hP.2.1
  have hn4 := hE.1
  have hT6 := hE.2.2.2.2.1
  have hep := hE.2.2.2.2.2.2.2
  have hbk := hE.2.2.2.2.2.2.1
  have hs1 := hσ.2.2.2.2.2.1
  have hs2 := hσ.2.2.2.2.2.2.1
  have hs3 := hσ.2.2.2.2.2.2.2.1
  have hbd := hσ.2.2.2.2.2.2.2.2.1
  have hρ : RuOK (sr σ) := rho_OK hP hE
  have ht : tk (sr σ) (st σ) := rho_tk hE
  have hrb : rb (sr σ) = pb (sP σ) := rfl
  have hrn : rn (sr σ) = en (sE σ) := rfl
  have hrl : rl (sr σ) = pL (sP σ) := rfl
  have hm : mR f r (sr σ) := mR_of h.2.1 h.2.2.1
  refine zg_aload_n hX 0 rfl dX10_piece_0 rfl 1 rfl ?_
  refine zg_callV (As := []) (rest := []) (k0 := 0) (ci := 9) hX (c_X10_faultOf l D cI q f r σ B hσ hB h) mw_757 mw_759 mw_s12 mw_10 mw_760 sg_X10_faultOf (by decide) (by decide) (Nat.le_refl _) (Nat.le_refl _) rfl rfl rfl (Nat.le_of_ble_eq_true rfl) dX10_piece_1 4 rfl (fun v1 W1 hp1 => ?_)
  obtain ⟨F1, R1, rfl, rfl, hF1, hx1, h36, hI1⟩ := hp1
  show G X 1 0 0 (mW cI q F1 R1) [(0, .ref (q 0))] 4 [.int (zI (ft (sg σ) 0 (sl σ) : Int))]
  have hr1 : MRel F1 R1 σ := MRel_f (MRel_r h hx1) (fun j a b c _ _ => hF1 j a b c)
  have hfr := ft_rng (sg σ) 0 (sl σ)
  refine zg_aload_n hX 0 rfl dX10_piece_4 rfl 5 rfl ?_
  refine mg_0_1 hX mw_642 (sl σ : Int) hr1.1.1 dX10_piece_5 8 rfl ?_
  refine zg_icmp_lt hX (by omega) (by omega) dX10_piece_8 19 (by decide) 11 rfl (fun h8 => ?_) (fun h8 => ?_)
  · have hnw : ¬ whl σ = true := fun z => by have := (of_decide_eq_true z).2.2; omega
    refine zg_bipush hX dX10_piece_19 21 rfl (by decide) ?_
    exact zg_iret hX hR (Nat.le_refl _) (Nat.le_refl _) rfl dX10_piece_21 (qM_ret (by unfold o_piece; rw [if_neg hnw]) hr1)
  · have hall : ft (sg σ) 0 (sl σ) = sl σ := by omega
    have hI := hI1 hall
    have h4s := stt_4 (sg σ) (sl σ)
    refine zg_aload_n hX 0 rfl dX10_piece_11 rfl 12 rfl ?_
    refine mg_0_5 hX mw_646 (F1 3) rfl dX10_piece_12 15 rfl ?_
    refine zg_iconst hX dX10_piece_15 16 rfl ?_
    refine zg_icmp_eq hX (by omega) (by omega) dX10_piece_16 22 (by decide) 19 rfl (fun h16 => ?_) (fun h16 => ?_)
    · have hs4 : stt (sg σ) (sl σ) = 4 := by have := hI.1; omega
      have hs5 := h4s.2.mp hs4
      have hw : whl σ = true := decide_eq_true ⟨hs5.1, hs5.2, hall⟩
      have hwf := whl_len (g := sg σ) hs5.1 hs5.2 hall
      refine zg_aload_n hX 0 rfl dX10_piece_22 rfl 23 rfl ?_
      refine mg_0_2 hX mw_643 dX10_piece_23 26 rfl ?_
      refine zg_aload_n hX 0 rfl dX10_piece_26 rfl 27 rfl ?_
      refine mg_0_11 hX mw_652 dX10_piece_27 30 rfl ?_
      refine zg_callS (As := [.ref (q 2), .ref (q 3)]) (rest := []) hX (c_X10_copy_1_2 l D cI q F1 R1) mw_774 mw_775 mw_10 mw_776 sg_X10_copy.2 (by decide) (by decide) (Nat.le_refl _) (Nat.le_refl _) rfl (Nat.le_of_ble_eq_true rfl) dX10_piece_30 33 rfl (fun v30 W30 hp30 => ?_)
      obtain ⟨R30, rfl, rfl, hl30⟩ := hp30
      show G X 1 0 0 (mW cI q F1 R30) [(0, .ref (q 0))] 33 []
      have hmp := m_piece hr1 hI hs4 hwf hl30
      refine zg_aload_n hX 0 rfl dX10_piece_33 rfl 34 rfl ?_
      refine zg_aload_n hX 0 rfl dX10_piece_34 rfl 35 rfl ?_
      refine mg_0_3 hX mw_644 (F1 1) rfl dX10_piece_35 38 rfl ?_
      refine mp_0_6 hX mw_647 dX10_piece_38 41 rfl ?_
      refine zg_aload_n hX 0 rfl dX10_piece_41 rfl 42 rfl ?_
      refine zg_aload_n hX 0 rfl dX10_piece_42 rfl 43 rfl ?_
      refine mg_0_4 hX mw_645 (F1 2) rfl dX10_piece_43 46 rfl ?_
      refine mp_0_7 hX mw_648 dX10_piece_46 49 rfl ?_
      refine zg_aload_n hX 0 rfl dX10_piece_49 rfl 50 rfl ?_
      refine zg_iconst hX dX10_piece_50 51 rfl ?_
      refine mp_0_8 hX mw_649 dX10_piece_51 54 rfl ?_
      refine zg_aload_n hX 0 rfl dX10_piece_54 rfl 55 rfl ?_
      refine zg_iconst hX dX10_piece_55 56 rfl ?_
      refine mp_0_9 hX mw_650 dX10_piece_56 59 rfl ?_
      refine zg_aload_n hX 0 rfl dX10_piece_59 rfl 60 rfl ?_
      refine zg_iconst hX dX10_piece_60 61 rfl ?_
      refine mp_0_12 hX mw_653 dX10_piece_61 64 rfl ?_
      refine zg_aload_n hX 0 rfl dX10_piece_64 rfl 65 rfl ?_
      refine zg_iconst hX dX10_piece_65 66 rfl ?_
      refine mp_0_14 hX mw_655 dX10_piece_66 69 rfl ?_
      refine zg_aload_n hX 0 rfl dX10_piece_69 rfl 70 rfl ?_
      refine zg_dup hX rfl dX10_piece_70 71 rfl ?_
      refine mg_0_10 hX mw_651 (s1 σ : Int) hr1.2.2.2.2.1 dX10_piece_71 74 rfl ?_
      refine zg_iconst hX dX10_piece_74 75 rfl ?_
      refine zg_iadd hX dX10_piece_75 76 rfl ?_
      refine mp_0_10 hX mw_651 dX10_piece_76 79 rfl ?_
      refine zg_aload_n hX 0 rfl dX10_piece_79 rfl 80 rfl ?_
      refine zg_iconst hX dX10_piece_80 81 rfl ?_
      refine mp_0_1 hX mw_642 dX10_piece_81 84 rfl ?_
      refine zg_aload_n hX 0 rfl dX10_piece_84 rfl 85 rfl ?_
      refine mg_0_6 hX mw_647 (F1 1) rfl dX10_piece_85 88 rfl ?_
      exact zg_iret hX hR (Nat.le_refl _) (Nat.le_refl _) rfl dX10_piece_88 (qM_ret (by unfold o_piece; rw [if_pos hw, ← hmp.1]) hmp.2)
    · have hnw : ¬ whl σ = true := fun z => by
        have q := of_decide_eq_true z
        have q2 := h4s.2.mpr ⟨q.1, q.2.1⟩
        have := hI.1
        omega
      refine zg_bipush hX dX10_piece_19 21 rfl (by decide) ?_
      exact zg_iret hX hR (Nat.le_refl _) (Nat.le_refl _) rfl dX10_piece_21 (qM_ret (by unfold o_piece; rw [if_neg hnw]) hr1)
