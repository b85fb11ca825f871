theorem CRel_0 : CRel (fun _ => 0) (fun _ _ => 0) sg0 :=
  ⟨⟨rfl, fun k hk => absurd hk (Nat.not_lt_zero k)⟩, ⟨rfl, rfl, fun k hk => absurd hk (Nat.not_lt_zero k), fun k hk => absurd hk (Nat.not_lt_zero k)⟩, ⟨rfl, rfl, rfl, rfl, rfl, rfl, rfl, fun k hk => absurd hk (Nat.not_lt_zero k), fun k hk => absurd hk (Nat.not_lt_zero k), fun k hk => absurd hk (Nat.not_lt_zero k), fun k hk => absurd hk (Nat.not_lt_zero k), fun k hk => absurd hk (Nat.not_lt_zero k)⟩, fun z => absurd (show false = true from z) (by decide), rfl, rfl, rfl, rfl⟩
theorem MRel_0 : MRel (pu (fun _ => 0) 14 (-1)) (fun _ _ => 0) sg0 :=
  ⟨⟨rfl, fun k hk => absurd hk (Nat.not_lt_zero k)⟩, ⟨rfl, rfl, fun k hk => absurd hk (Nat.not_lt_zero k), fun k hk => absurd hk (Nat.not_lt_zero k)⟩, ⟨rfl, rfl, rfl, rfl, fun k hk => absurd hk (Nat.not_lt_zero k), fun k hk => absurd hk (Nat.not_lt_zero k), fun k hk => absurd hk (Nat.not_lt_zero k), fun k hk => absurd hk (Nat.not_lt_zero k), fun k hk => absurd hk (Nat.not_lt_zero k), fun k hk => absurd hk (Nat.not_lt_zero k)⟩, fun z => absurd (show false = true from z) (by decide), rfl, rfl, rfl, ⟨(by decide : (-1 : Int) ≤ -1), (by decide : (-1 : Int) ≤ 0), ⟨fun z => absurd (show (-1 : Int) = 0 from z) (by decide), fun z => absurd (show false = true from z) (by decide)⟩⟩⟩
theorem si_X9 : yX9_init.cls ≠ "java/lang/invoke/MethodHandle" ∧ yX9_init.cls ≠ "java/lang/invoke/VarHandle" ∧ (parseMethodDescriptor yX9_init.desc).map (fun d => d.parameters.length) = some 0 := by decide +kernel
theorem si_X10 : yX10_init.cls ≠ "java/lang/invoke/MethodHandle" ∧ yX10_init.cls ≠ "java/lang/invoke/VarHandle" ∧ (parseMethodDescriptor yX10_init.desc).map (fun d => d.parameters.length) = some 0 := by decide +kernel
theorem st_SORT_LETTERS {args : Array Value} {s : State} (hts : ∀ w ∈ lw_tbl, w.before args s = true) (hg : (Jvm.Cond.and given_1 narrow_1).before args s = true) {A : Nat → Prop} (hA : ∀ a : Nat, a < s.heap.size → ¬ A a) : ∃ t, va_Z RX9 "SORT_LETTERS" "[C" (.ref t) A s s.heap ∧ va_T .char t 4 (fun j => .int (zI (sL j))) A s s.heap := by
  have hs := flat_of_before _ hg
  obtain ⟨t, ht, hT⟩ := va_Tof (args := args) (tm := (.static "QuartetNods" "SORT_LETTERS" "[C")) (ty := .char) (N := 4) (f := fun j => .int (zI (sL j))) (A := A) (by decide) (hs _ (by decide +kernel)) (va_eqt (z := 4) (hs _ (by decide +kernel))) (fun j hj => match j, hj with
    | 0, _ => va_eqt (t := .elem (.static "QuartetNods" "SORT_LETTERS" "[C") (.int 0)) (z := 115) (hs _ (by decide +kernel))
    | 1, _ => va_eqt (t := .elem (.static "QuartetNods" "SORT_LETTERS" "[C") (.int 1)) (z := 108) (hs _ (by decide +kernel))
    | 2, _ => va_eqt (t := .elem (.static "QuartetNods" "SORT_LETTERS" "[C") (.int 2)) (z := 97) (hs _ (by decide +kernel))
    | 3, _ => va_eqt (t := .elem (.static "QuartetNods" "SORT_LETTERS" "[C") (.int 3)) (z := 114) (hs _ (by decide +kernel))
    | n + 4, h => absurd h (by omega)) hA
  exact ⟨t, va_Zof (hts _ mt_317) (hts _ (lw_ut mw_1)) ht hA, hT⟩
theorem st_MOST_TAKEN {args : Array Value} {s : State} (hts : ∀ w ∈ lw_tbl, w.before args s = true) (hg : (Jvm.Cond.and given_1 narrow_1).before args s = true) {A : Nat → Prop} (hA : ∀ a : Nat, a < s.heap.size → ¬ A a) : ∃ t, va_Z RX9 "MOST_TAKEN" "[I" (.ref t) A s s.heap ∧ va_T .int t 5 (fun j => .int (zI (mT j))) A s s.heap := by
  have hs := flat_of_before _ hg
  obtain ⟨t, ht, hT⟩ := va_Tof (args := args) (tm := (.static "QuartetNods" "MOST_TAKEN" "[I")) (ty := .int) (N := 5) (f := fun j => .int (zI (mT j))) (A := A) (by decide) (hs _ (by decide +kernel)) (va_eqt (z := 5) (hs _ (by decide +kernel))) (fun j hj => match j, hj with
    | 0, _ => va_eqt (t := .elem (.static "QuartetNods" "MOST_TAKEN" "[I") (.int 0)) (z := 1) (hs _ (by decide +kernel))
    | 1, _ => va_eqt (t := .elem (.static "QuartetNods" "MOST_TAKEN" "[I") (.int 1)) (z := 2) (hs _ (by decide +kernel))
    | 2, _ => va_eqt (t := .elem (.static "QuartetNods" "MOST_TAKEN" "[I") (.int 2)) (z := 1) (hs _ (by decide +kernel))
    | 3, _ => va_eqt (t := .elem (.static "QuartetNods" "MOST_TAKEN" "[I") (.int 3)) (z := 1) (hs _ (by decide +kernel))
    | 4, _ => va_eqt (t := .elem (.static "QuartetNods" "MOST_TAKEN" "[I") (.int 4)) (z := 4) (hs _ (by decide +kernel))
    | n + 5, h => absurd h (by omega)) hA
  exact ⟨t, va_Zof (hts _ mt_373) (hts _ (lw_ut mw_1)) ht hA, hT⟩
theorem st_SORT_TIRES {args : Array Value} {s : State} (hts : ∀ w ∈ lw_tbl, w.before args s = true) (hg : (Jvm.Cond.and given_1 narrow_1).before args s = true) {A : Nat → Prop} (hA : ∀ a : Nat, a < s.heap.size → ¬ A a) : ∃ t, va_Z RX9 "SORT_TIRES" "[I" (.ref t) A s s.heap ∧ va_T .int t 4 (fun j => .int (zI (sT j))) A s s.heap := by
  have hs := flat_of_before _ hg
  obtain ⟨t, ht, hT⟩ := va_Tof (args := args) (tm := (.static "QuartetNods" "SORT_TIRES" "[I")) (ty := .int) (N := 4) (f := fun j => .int (zI (sT j))) (A := A) (by decide) (hs _ (by decide +kernel)) (va_eqt (z := 4) (hs _ (by decide +kernel))) (fun j hj => match j, hj with
    | 0, _ => va_eqt (t := .elem (.static "QuartetNods" "SORT_TIRES" "[I") (.int 0)) (z := 2) (hs _ (by decide +kernel))
    | 1, _ => va_eqt (t := .elem (.static "QuartetNods" "SORT_TIRES" "[I") (.int 1)) (z := (-1)) (hs _ (by decide +kernel))
    | 2, _ => va_eqt (t := .elem (.static "QuartetNods" "SORT_TIRES" "[I") (.int 2)) (z := (-3)) (hs _ (by decide +kernel))
    | 3, _ => va_eqt (t := .elem (.static "QuartetNods" "SORT_TIRES" "[I") (.int 3)) (z := 1) (hs _ (by decide +kernel))
    | n + 4, h => absurd h (by omega)) hA
  exact ⟨t, va_Zof (hts _ mt_387) (hts _ (lw_ut mw_1)) ht hA, hT⟩
set_option maxRecDepth 20000 in
theorem law_begin {X : gT} {l : Launch} {D : va_G} {cI : ClassId} {b L : Nat} {xs : Nat → Int32} (hL : L ≤ 256) (hX : OKB X l D cI RL cL_law 4 100 600000 7302250) (hLK : LK X b L xs) (KE : ∀ (ws : va_W) (lv : List (Nat × Value)), G X 4 43 353 ws lv 694 [.int (zI 1)]) : G X 4 0 0 [] [(0, .ref b)] 0 [] := by
  refine zg_new (ci := 8) (ty0 := tyX9) hX [.null, .null, .null, .null, .null, .null, .null, .null, .null, .int (zI 0), .int (zI 0), .int (zI 0), .int (zI 0)] rfl inX9 tyX9_ok mw_15 mw_16 mw_1 dfX9 (by decide) (by decide) dL_law_0 3 rfl (fun x0 => ?_)
  show G X 4 1 13 [(x0, .inr (8, [.null, .null, .null, .null, .null, .null, .null, .null, .null, .int (zI 0), .int (zI 0), .int (zI 0), .int (zI 0)]))] [(0, .ref b)] 3 [.ref x0]
  refine zg_dup hX rfl dL_law_3 4 rfl ?_
  refine zg_callI (As := []) (rest := [.ref x0]) (wc := [(x0, .inr (8, [.null, .null, .null, .null, .null, .null, .null, .null, .null, .int (zI 0), .int (zI 0), .int (zI 0), .int (zI 0)]))]) (idx := 9) hX [] [0] [] (c_X9_init l D cI x0) mw_17 mw_18 mw_1 mw_19 rfl si_X9 (by decide) (by decide) (by decide) (by decide) rfl rfl (by decide) rfl (by decide) (by decide) rfl (Nat.le_of_ble_eq_true rfl) dL_law_4 7 rfl (fun v W1 hp => ?_)
  obtain ⟨rfl, qc, hqc, rfl⟩ := hp
  subst hqc
  show G X 4 29 189 (cW cI qc (fun _ => 0) (fun _ _ => 0)) [(0, .ref b)] 7 [.ref (qc 0)]
  refine zg_astore_n hX [(1, .ref (qc 0)), (0, .ref b)] dL_law_7 rfl (by decide) rfl 8 rfl ?_
  refine zg_new (ci := 9) (ty0 := tyX10) hX [.null, .int (zI 0), .null, .int (zI 0), .int (zI 0), .int (zI 0), .int (zI 0), .int (zI 0), .int (zI 0), .int (zI 0), .int (zI 0), .null, .int (zI 0), .null, .int (zI 0), .null, .null, .null, .null, .int (zI 0), .int (zI 0), .null, .null, .null, .int (zI 0), .int (zI 0), .int (zI 0), .int (zI 0), .int (zI 0), .int (zI 0), .null, .null, .long (zL 0)] rfl inX10 tyX10_ok mw_635 mw_636 mw_10 dfX10 (by decide) (by decide) dL_law_8 11 rfl (fun x8 => ?_)
  show G X 4 30 222 ((cW cI qc (fun _ => 0) (fun _ _ => 0)) ++ [(x8, .inr (9, [.null, .int (zI 0), .null, .int (zI 0), .int (zI 0), .int (zI 0), .int (zI 0), .int (zI 0), .int (zI 0), .int (zI 0), .int (zI 0), .null, .int (zI 0), .null, .int (zI 0), .null, .null, .null, .null, .int (zI 0), .int (zI 0), .null, .null, .null, .int (zI 0), .int (zI 0), .int (zI 0), .int (zI 0), .int (zI 0), .int (zI 0), .null, .null, .long (zL 0)]))]) [(1, .ref (qc 0)), (0, .ref b)] 11 [.ref x8]
  refine zg_dup hX rfl dL_law_11 12 rfl ?_
  refine zg_callI (As := []) (rest := [.ref x8]) (wc := [(x8, .inr (9, [.null, .int (zI 0), .null, .int (zI 0), .int (zI 0), .int (zI 0), .int (zI 0), .int (zI 0), .int (zI 0), .int (zI 0), .int (zI 0), .null, .int (zI 0), .null, .int (zI 0), .null, .null, .null, .null, .int (zI 0), .int (zI 0), .null, .null, .null, .int (zI 0), .int (zI 0), .int (zI 0), .int (zI 0), .int (zI 0), .int (zI 0), .null, .null, .long (zL 0)]))]) (idx := 12) hX (cW cI qc (fun _ => 0) (fun _ _ => 0)) [29] [0, 1, 2, 3, 4, 5, 6, 7, 8, 9, 10, 11, 12, 13, 14, 15, 16, 17, 18, 19, 20, 21, 22, 23, 24, 25, 26, 27, 28] (c_X10_init l D cI x8) mw_637 mw_638 mw_10 mw_639 rfl si_X10 (by decide) (by decide) (by decide) (by decide) rfl rfl (by decide) rfl (by decide) (by decide) rfl (Nat.le_of_ble_eq_true rfl) dL_law_12 15 rfl (fun v W1 hp => ?_)
  obtain ⟨rfl, qm, hqm, rfl⟩ := hp
  subst hqm
  show G X 4 43 353 ((cW cI qc (fun _ => 0) (fun _ _ => 0)) ++ (mW cI qm (pu (fun _ => 0) 14 (-1)) (fun _ _ => 0))) [(1, .ref (qc 0)), (0, .ref b)] 15 [.ref (qm 0)]
  refine zg_astore_n hX [(2, .ref (qm 0)), (1, .ref (qc 0)), (0, .ref b)] dL_law_15 rfl (by decide) rfl 16 rfl ?_
  refine zg_iconst hX dL_law_16 17 rfl ?_
  refine zg_istore_n hX [(3, .int (zI 0)), (2, .ref (qm 0)), (1, .ref (qc 0)), (0, .ref b)] dL_law_17 rfl (by decide) rfl 18 rfl ?_
  refine zg_lv [(0, .ref b), (1, .ref (qc 0)), (2, .ref (qm 0)), (3, .int (zI 0))] [3, 2, 1, 0] rfl ?_
  exact law_loop hL hX hLK qc qm KE (L + 1) 0 sg0 _ _ _ _ (by omega) (by omega) sOK_0 CRel_0 MRel_0
theorem whole_start {p : Program} {e : Env} {s : State} {m : MethodId} {below : List Frame} {meth : Method} {c : Code} (l : Launch) {b L : Nat} {xs : Nat → Int32} (hL : L ≤ 256) (C0 : lw_At p s m meth c b L xs) : W p l e room_1 s m #[Value.ref b] below meth c s.heap [] 0 0 (lw_Z below #[Value.ref b] s) (entryFrame m ([Value.ref b] : List Value).toArray 4) := by
  obtain ⟨hx, hb, hr, hml, hown, hts, hXs, hbl, hlocks, hgv⟩ := id C0
  have htu : ∀ w ∈ lw_u, w.before #[Value.ref b] s = true := fun w hw => hts w (lw_ut hw)
  obtain ⟨c0, i0, k0⟩ := u_known (C := RX0) (T := TX0) (N := 6) (n := 6) htu inX0 (htu _ mw_148)
  obtain ⟨c1, i1, k1⟩ := u_known (C := RX1) (T := TX1) (N := 6) (n := 6) htu inX1 (htu _ mw_222)
  obtain ⟨c2, i2, k2⟩ := u_known (C := RX2) (T := TX2) (N := 2) (n := 2) htu inX2 (htu _ mw_135)
  obtain ⟨c3, i3, k3⟩ := u_known (C := RX3) (T := TX3) (N := 12) (n := 12) htu inX3 (htu _ mw_75)
  obtain ⟨c4, i4, k4⟩ := u_known (C := RX4) (T := TX4) (N := 6) (n := 6) htu inX4 (htu _ mw_196)
  obtain ⟨c5, i5, k5⟩ := u_known (C := RX6) (T := TX6) (N := 5) (n := 5) htu inX6 (htu _ mw_173)
  obtain ⟨c6, i6, k6⟩ := u_known (C := RX7) (T := TX7) (N := 2) (n := 2) htu inX7 (htu _ mw_24)
  obtain ⟨c7, i7, k7⟩ := u_known (C := RX8) (T := TX8) (N := 4) (n := 4) htu inX8 (htu _ mw_42)
  obtain ⟨c8, i8, k8⟩ := u_known (C := RX9) (T := TX9) (N := 13) (n := 13) htu inX9 (htu _ mw_16)
  obtain ⟨c9, i9, k9⟩ := u_known (C := RX10) (T := TX10) (N := 33) (n := 33) htu inX10 (htu _ mw_636)
  obtain ⟨dC, dI, hKc⟩ : ∃ (dC : Nat → ClassId) (dI : Nat → Nat → Nat), ∀ (k : Nat) (q : vw_C), vwCl[k]? = some q → u_Kn s q.1 q.2.1 q.2.2 (dC k) (dI k) := by
    refine ⟨fun k => [c0, c1, c2, c3, c4, c5, c6, c7, c8, c9].getD k c0, fun k => [i0, i1, i2, i3, i4, i5, i6, i7, i8, i9].getD k i0, ?_⟩
    intro k q hq
    match k, hq with
    | 0, hq => cases hq; exact k0
    | 1, hq => cases hq; exact k1
    | 2, hq => cases hq; exact k2
    | 3, hq => cases hq; exact k3
    | 4, hq => cases hq; exact k4
    | 5, hq => cases hq; exact k5
    | 6, hq => cases hq; exact k6
    | 7, hq => cases hq; exact k7
    | 8, hq => cases hq; exact k8
    | 9, hq => cases hq; exact k9
    | k + 10, hq => simp [vwCl] at hq
  obtain ⟨cI, kA, comp, a1, a2, a3⟩ := Cond.arrayClass_spec (htu _ mw_40)
  have hK : va_K (dC, dI) vwCl [(cI, .int)] s := by
    refine ⟨hKc, fun k q h => ?_⟩
    match k, h with
    | 0, h => cases h; exact ⟨fun n z => ⟨fun k h => (by cases h), kA, a2, comp, a3⟩, a1⟩
    | k + 1, h => simp at h
  have hA0 : ∀ a : Nat, a < s.heap.size → ¬ (fun q : Nat => s.heap.size ≤ q) a := fun a h => Nat.not_le.mpr h
  have hst : zst (fun q : Nat => s.heap.size ≤ q) s s.heap := ⟨st_SORT_LETTERS hts hgv hA0, st_MOST_TAKEN hts hgv hA0, st_SORT_TIRES hts hgv hA0⟩
  have hns : nst s := by
    intro w hw
    simp only [nws, List.mem_cons, List.not_mem_nil, or_false] at hw
    rcases hw with rfl | rfl | rfl | rfl | rfl | rfl | rfl | rfl
    · exact va_Nw.of rfl (hts _ mt_25)
    · exact va_Nw.of rfl (hts _ mt_43)
    · exact va_Nw.of rfl (hts _ mt_76)
    · exact va_Nw.of rfl (hts _ mt_316)
    · exact va_Nw.of rfl (hts _ mt_372)
    · exact va_Nw.of rfl (hts _ mt_386)
    · exact va_Nw.of rfl (hts _ mt_499)
    · exact va_Nw.of rfl (hts _ mt_590)
  have hXX : OKB (p, l, e, room_1, s, m, #[Value.ref b], below, meth, c, (dC, dI), cI, (fun q : Nat => s.heap.size ≤ q), lw_Z below #[Value.ref b] s) l (dC, dI) cI RL cL_law 4 100 600000 7302250 := ⟨rfl, rfl, rfl, hx, hb, hml, hown, htu, hK, fun q h => h, (by decide : 100 ≤ 2048), (by decide : 64 * 100 ≤ 84000), Nat.le_refl _, Nat.le_refl _, hst, hns⟩
  have hLK : LK (p, l, e, room_1, s, m, #[Value.ref b], below, meth, c, (dC, dI), cI, (fun q : Nat => s.heap.size ≤ q), lw_Z below #[Value.ref b] s) b L xs := ⟨hXs, hbl, Nat.not_le.mpr hbl⟩
  have KE : ∀ (ws : va_W) (lv : List (Nat × Value)), G (p, l, e, room_1, s, m, #[Value.ref b], below, meth, c, (dC, dI), cI, (fun q : Nat => s.heap.size ≤ q), lw_Z below #[Value.ref b] s) 4 43 353 ws lv 694 [.int (zI 1)] := fun ws lv H locs ls hP hD hS hl => va_forget (fun q hq => hS.2.2 q hq) (W.widen (k := 600000) (n := 7302250) (by decide) (by decide) (lw_ret hx hb hr hlocks dL_law_694))
  have hl := lv_entry ([.ref b]) (n := 4) (Nat.le_of_ble_eq_true rfl)
  rw [lg_entry_eq]
  exact law_begin hL hXX hLK KE s.heap [] _ (fun k q h => by simp at h) ⟨fun i j p q h => by simp at h, fun k q h => by simp at h⟩ va_S.rf hl
