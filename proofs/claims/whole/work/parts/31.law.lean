-- THE LAW
theorem zg_callP {X : gT} {l : Launch} {D : va_G} {cI : ClassId} {own : String} {cc : ByteArray} {nL lvl mc ms k n : Nat} {ws : va_W} {lv : List (Nat × Value)} {pc : Nat} {st : List Value} (hX : OKB X l D cI own cc nL lvl mc ms) {yc : MethodName} {cc2 : ByteArray} {nL2 lvl2 idx : Nat} {ret2 : Option FieldType} {As : List Value} {post2 : Option Value → va_W → Prop} {rest : List Value} {k0 ci N b : Nat} {C : String} {T : u_T} {fs : List Value} {wc : va_W} (wr : va_W) (isC isR : List Nat) (hM : Cn l D cI yc cc2 nL2 ret2 lvl2 0 0 (.ref b :: As) wc post2) (w1 : Cond.methodLink own idx yc ∈ lw_u) (w2 : Cond.instanceMethod yc ∈ lw_u) (w3 : Cond.selects C yc yc ∈ lw_u) (w4 : Cond.initialized C ∈ lw_u) (w5 : Cond.code yc cc2 nL2 ret2 ∈ lw_u) (hs : yc.cls = C ∧ yc.cls ≠ "java/lang/invoke/MethodHandle" ∧ yc.cls ≠ "java/lang/invoke/VarHandle" ∧ (parseMethodDescriptor yc.desc).map (fun d => d.parameters.length) = some As.length) (hlv : lvl2 < lvl) (hnl : nL2 ≤ 45) (hk : k ≤ mc) (hn : n ≤ ms) (he : wc[k0]? = some (b, .inr (ci, fs))) (hc : vwCl[ci]? = some (C, T, N)) (hC : isC.map (fun i => ws[i]?) = wc.map some) (hCf : isC.filterMap (fun i => ws[i]?) = wc) (hnC : va_nd isC = true) (hRw : isR.map (fun i => ws[i]?) = wr.map some) (hnR : va_nd isR = true) (hdis : ∀ i ∈ isR, i ∉ isC) (hst2 : st = As.reverse ++ .ref b :: rest) (hcat : (rest.map fun v => v.category).sum ≤ 8) (hd : decode cc pc = .ok (.invokevirtual idx, 3)) (q : Nat) (hq : pc + 3 = q) (kk : ∀ v W1, post2 v W1 → G X nL k n (wr ++ W1) lv q (v.toList ++ rest)) : G X nL k n ws lv pc st := by
  obtain ⟨p, l', e, R, s, m, args, below, meth, c, D', cI', A, Q⟩ := X
  obtain ⟨rfl, rfl, rfl, hx, hb, hml, hown, hts, hK, hA, hfr, hlo, hmc, hms, hst, hns⟩ := hX
  subst hq
  intro H locs ls hP hD hS hl
  have hFc := va_free (wc := wc) hD hS hA isC hC
  have hPc := hP.sub isC hCf
  have hDc := hD.sub isC hnC hC
  refine zc_run (va_runV (As := As) (rest := rest) ⟨hx, hb, hml, hown, hts⟩ (hM H.size) (cwV As.length hts (zc_goodV w1 w2 w3 w4 w5) rfl rfl rfl hs ⟨by show lvl2 + 1 ≤ R.frames; omega, by show 8 + (nL2 + 11) + 64 * lvl2 ≤ R.locals; omega⟩) ⟨zc_blind, va_recv hK hPc hc he, (fun U hU hW => ⟨rfl, by rw [hU], by rw [hU]; exact hPc, va_K.moved hW.alike hK, hDc.weaken (fun _ _ _ _ => trivial), by rw [hU]; exact zst_go hst hW.alike (fun a h1 h2 => hS.2.1 a h1 h2) hFc, nst_warm hW hns⟩)⟩ rfl rfl hl.1 hst2 (lv_room hcat) hd ⟨by omega, by omega⟩) hS (fun q _ h => hFc q h) hFc (fun v W1 H1 locs1 hp hP1 hD1 _ hk1 hS1 => ?_)
  obtain ⟨hPj, hDj⟩ := va_join hP hD isC isR hC hRw hnR hdis hk1 hFc hP1 hD1
  exact kk v W1 hp H1 locs1 ls hPj hDj hS1 hl
/-- the script -/
def LK (X : gT) (b L : Nat) (xs : Nat → Int32) : Prop := match X with
  | (_, _, _, _, s, _, _, _, _, _, _, _, A, _) => va_X b L xs s s.heap ∧ b < s.heap.size ∧ ¬ A b
theorem zg_sld {X : gT} {l : Launch} {D : va_G} {cI : ClassId} {own : String} {cc : ByteArray} {nL lvl mc ms k n : Nat} {ws : va_W} {lv : List (Nat × Value)} {pc : Nat} {st : List Value} (hX : OKB X l D cI own cc nL lvl mc ms) {b L : Nat} {xs : Nat → Int32} (hL : L ≤ 256) (h : LK X b L xs) {i : Int} (j : Nat) (hi : i = (j : Int)) (hj : j < L) (hd : decode cc pc = .ok (.iaload, 1)) (q : Nat) (hq : pc + 1 = q) (kk : G X nL k n ws lv q (.int (zI (xs j).toInt) :: st)) : G X nL k n ws lv pc (.int (zI i) :: .ref b :: st) := by
  obtain ⟨p, l', e, R, s, m, args, below, meth, c, D', cI', A, Q⟩ := X
  obtain ⟨rfl, rfl, rfl, hx, hb, hml, hown, hts, hK, hA, hfr, hlo, hmc, hms, hst, hns⟩ := hX
  obtain ⟨hXx, hbl, hbA⟩ := h
  subst hq
  intro H locs ls hP hD hS hl
  refine va_sld hx hb hXx hbl hbA hS (zI_in j hi hj (by omega)) hd ?_
  have e : xs (zI i).toNatClampNeg = zI (xs j).toInt := by rw [zI_cl j hi (by omega)]; exact zI_of _
  rw [e]
  exact kk H locs ls hP hD hS hl
theorem zg_slen {X : gT} {l : Launch} {D : va_G} {cI : ClassId} {own : String} {cc : ByteArray} {nL lvl mc ms k n : Nat} {ws : va_W} {lv : List (Nat × Value)} {pc : Nat} {st : List Value} (hX : OKB X l D cI own cc nL lvl mc ms) {b L : Nat} {xs : Nat → Int32} (h : LK X b L xs) (hd : decode cc pc = .ok (.arraylength, 1)) (q : Nat) (hq : pc + 1 = q) (kk : G X nL k n ws lv q (.int (zI (L : Int)) :: st)) : G X nL k n ws lv pc (.ref b :: st) := by
  obtain ⟨p, l', e, R, s, m, args, below, meth, c, D', cI', A, Q⟩ := X
  obtain ⟨rfl, rfl, rfl, hx, hb, hml, hown, hts, hK, hA, hfr, hlo, hmc, hms, hst, hns⟩ := hX
  obtain ⟨hXx, hbl, hbA⟩ := h
  subst hq
  intro H locs ls hP hD hS hl
  exact va_slen hx hb hXx hbl hbA hS hd (kk H locs ls hP hD hS hl)
theorem zg_icsame {X : gT} {l : Launch} {D : va_G} {cI : ClassId} {own : String} {cc : ByteArray} {nL lvl mc ms k n : Nat} {ws : va_W} {lv : List (Nat × Value)} {pc : Nat} {st : List Value} (hX : OKB X l D cI own cc nL lvl mc ms) {x : Int32} {off : Int} (hd : decode cc pc = .ok (.if_icmp .eq off, 3)) (tg : Nat) (ht : (pc : Int) + off = (tg : Int)) (kk : G X nL k n ws lv tg st) : G X nL k n ws lv pc (.int x :: .int x :: st) := by
  obtain ⟨p, l', e, R, s, m, args, below, meth, c, D', cI', A, Q⟩ := X
  obtain ⟨rfl, rfl, rfl, hx, hb, hml, hown, hts, hK, hA, hfr, hlo, hmc, hms, hst, hns⟩ := hX
  intro H locs ls hP hD hS hl
  exact lv_icmp_eq (tgt := tg) hx hb hd ht (fun _ => kk H locs ls hP hD hS hl) (fun h => absurd rfl h)
theorem zg_lsame {X : gT} {l : Launch} {D : va_G} {cI : ClassId} {own : String} {cc : ByteArray} {nL lvl mc ms k n : Nat} {ws : va_W} {lv : List (Nat × Value)} {pc : Nat} {st : List Value} (hX : OKB X l D cI own cc nL lvl mc ms) {x : Int64} (hd : decode cc pc = .ok (.lcmp, 1)) (q : Nat) (hq : pc + 1 = q) (kk : G X nL k n ws lv q (.int (zI 0) :: st)) : G X nL k n ws lv pc (.long x :: .long x :: st) := by
  obtain ⟨p, l', e, R, s, m, args, below, meth, c, D', cI', A, Q⟩ := X
  obtain ⟨rfl, rfl, rfl, hx, hb, hml, hown, hts, hK, hA, hfr, hlo, hmc, hms, hst, hns⟩ := hX
  subst hq
  intro H locs ls hP hD hS hl
  refine W.lcmp hx hb hd ?_
  have e : lg_cmp x x = zI 0 := by unfold lg_cmp; simp; decide
  rw [e]
  exact kk H locs ls hP hD hS hl
theorem lj_cm_C (cI : ClassId) (q q2 : Nat → Nat) (f f2 : Nat → Int) (r r2 : Nat → Nat → Int) : ([0, 1, 2, 3, 4, 5, 6, 7, 8, 9, 10, 11, 12, 13, 14, 15, 16, 17, 18, 19, 20, 21, 22, 23, 24, 25, 26, 27, 28]).map (fun i => ((cW cI q f r) ++ (mW cI q2 f2 r2))[i]?) = (cW cI q f r).map some := rfl
theorem lj_cm_F (cI : ClassId) (q q2 : Nat → Nat) (f f2 : Nat → Int) (r r2 : Nat → Nat → Int) : ([0, 1, 2, 3, 4, 5, 6, 7, 8, 9, 10, 11, 12, 13, 14, 15, 16, 17, 18, 19, 20, 21, 22, 23, 24, 25, 26, 27, 28]).filterMap (fun i => ((cW cI q f r) ++ (mW cI q2 f2 r2))[i]?) = cW cI q f r := rfl
theorem lj_cm_R (cI : ClassId) (q q2 : Nat → Nat) (f f2 : Nat → Int) (r r2 : Nat → Nat → Int) : ([29, 30, 31, 32, 33, 34, 35, 36, 37, 38, 39, 40, 41, 42]).map (fun i => ((cW cI q f r) ++ (mW cI q2 f2 r2))[i]?) = (mW cI q2 f2 r2).map some := rfl
theorem lj_mc_C (cI : ClassId) (q q2 : Nat → Nat) (f f2 : Nat → Int) (r r2 : Nat → Nat → Int) : ([0, 1, 2, 3, 4, 5, 6, 7, 8, 9, 10, 11, 12, 13]).map (fun i => ((mW cI q2 f2 r2) ++ (cW cI q f r))[i]?) = (mW cI q2 f2 r2).map some := rfl
theorem lj_mc_F (cI : ClassId) (q q2 : Nat → Nat) (f f2 : Nat → Int) (r r2 : Nat → Nat → Int) : ([0, 1, 2, 3, 4, 5, 6, 7, 8, 9, 10, 11, 12, 13]).filterMap (fun i => ((mW cI q2 f2 r2) ++ (cW cI q f r))[i]?) = mW cI q2 f2 r2 := rfl
theorem lj_mc_R (cI : ClassId) (q q2 : Nat → Nat) (f f2 : Nat → Int) (r r2 : Nat → Nat → Int) : ([14, 15, 16, 17, 18, 19, 20, 21, 22, 23, 24, 25, 26, 27, 28, 29, 30, 31, 32, 33, 34, 35, 36, 37, 38, 39, 40, 41, 42]).map (fun i => ((mW cI q2 f2 r2) ++ (cW cI q f r))[i]?) = (cW cI q f r).map some := rfl
theorem lj_n1 : va_nd [0, 1, 2, 3, 4, 5, 6, 7, 8, 9, 10, 11, 12, 13, 14, 15, 16, 17, 18, 19, 20, 21, 22, 23, 24, 25, 26, 27, 28] = true ∧ va_nd [29, 30, 31, 32, 33, 34, 35, 36, 37, 38, 39, 40, 41, 42] = true ∧ va_nd [0, 1, 2, 3, 4, 5, 6, 7, 8, 9, 10, 11, 12, 13] = true ∧ va_nd [14, 15, 16, 17, 18, 19, 20, 21, 22, 23, 24, 25, 26, 27, 28, 29, 30, 31, 32, 33, 34, 35, 36, 37, 38, 39, 40, 41, 42] = true := by decide +kernel
theorem lj_d1 : ∀ i ∈ [29, 30, 31, 32, 33, 34, 35, 36, 37, 38, 39, 40, 41, 42], i ∉ [0, 1, 2, 3, 4, 5, 6, 7, 8, 9, 10, 11, 12, 13, 14, 15, 16, 17, 18, 19, 20, 21, 22, 23, 24, 25, 26, 27, 28] := by decide +kernel
theorem lj_d2 : ∀ i ∈ [14, 15, 16, 17, 18, 19, 20, 21, 22, 23, 24, 25, 26, 27, 28, 29, 30, 31, 32, 33, 34, 35, 36, 37, 38, 39, 40, 41, 42], i ∉ [0, 1, 2, 3, 4, 5, 6, 7, 8, 9, 10, 11, 12, 13] := by decide +kernel
theorem sl_X10_about : yX10_about.cls = RX10 ∧ yX10_about.cls ≠ "java/lang/invoke/MethodHandle" ∧ yX10_about.cls ≠ "java/lang/invoke/VarHandle" ∧ (parseMethodDescriptor yX10_about.desc).map (fun d => d.parameters.length) = some 2 := by decide +kernel
theorem sl_X10_again : yX10_again.cls = RX10 ∧ yX10_again.cls ≠ "java/lang/invoke/MethodHandle" ∧ yX10_again.cls ≠ "java/lang/invoke/VarHandle" ∧ (parseMethodDescriptor yX10_again.desc).map (fun d => d.parameters.length) = some 0 := by decide +kernel
theorem sl_X10_as : yX10_as.cls = RX10 ∧ yX10_as.cls ≠ "java/lang/invoke/MethodHandle" ∧ yX10_as.cls ≠ "java/lang/invoke/VarHandle" ∧ (parseMethodDescriptor yX10_as.desc).map (fun d => d.parameters.length) = some 2 := by decide +kernel
theorem sl_X10_bar : yX10_bar.cls = RX10 ∧ yX10_bar.cls ≠ "java/lang/invoke/MethodHandle" ∧ yX10_bar.cls ≠ "java/lang/invoke/VarHandle" ∧ (parseMethodDescriptor yX10_bar.desc).map (fun d => d.parameters.length) = some 2 := by decide +kernel
theorem sl_X10_blank : yX10_blank.cls = RX10 ∧ yX10_blank.cls ≠ "java/lang/invoke/MethodHandle" ∧ yX10_blank.cls ≠ "java/lang/invoke/VarHandle" ∧ (parseMethodDescriptor yX10_blank.desc).map (fun d => d.parameters.length) = some 0 := by decide +kernel
theorem sl_X10_coffee : yX10_coffee.cls = RX10 ∧ yX10_coffee.cls ≠ "java/lang/invoke/MethodHandle" ∧ yX10_coffee.cls ≠ "java/lang/invoke/VarHandle" ∧ (parseMethodDescriptor yX10_coffee.desc).map (fun d => d.parameters.length) = some 1 := by decide +kernel
theorem sl_X10_count : yX10_count.cls = RX10 ∧ yX10_count.cls ≠ "java/lang/invoke/MethodHandle" ∧ yX10_count.cls ≠ "java/lang/invoke/VarHandle" ∧ (parseMethodDescriptor yX10_count.desc).map (fun d => d.parameters.length) = some 1 := by decide +kernel
theorem sl_X10_cups : yX10_cups.cls = RX10 ∧ yX10_cups.cls ≠ "java/lang/invoke/MethodHandle" ∧ yX10_cups.cls ≠ "java/lang/invoke/VarHandle" ∧ (parseMethodDescriptor yX10_cups.desc).map (fun d => d.parameters.length) = some 1 := by decide +kernel
theorem sl_X10_digest : yX10_digest.cls = RX10 ∧ yX10_digest.cls ≠ "java/lang/invoke/MethodHandle" ∧ yX10_digest.cls ≠ "java/lang/invoke/VarHandle" ∧ (parseMethodDescriptor yX10_digest.desc).map (fun d => d.parameters.length) = some 0 := by decide +kernel
theorem sl_X10_draughts : yX10_draughts.cls = RX10 ∧ yX10_draughts.cls ≠ "java/lang/invoke/MethodHandle" ∧ yX10_draughts.cls ≠ "java/lang/invoke/VarHandle" ∧ (parseMethodDescriptor yX10_draughts.desc).map (fun d => d.parameters.length) = some 3 := by decide +kernel
theorem sl_X10_fault : yX10_fault.cls = RX10 ∧ yX10_fault.cls ≠ "java/lang/invoke/MethodHandle" ∧ yX10_fault.cls ≠ "java/lang/invoke/VarHandle" ∧ (parseMethodDescriptor yX10_fault.desc).map (fun d => d.parameters.length) = some 0 := by decide +kernel
theorem sl_X10_forget : yX10_forget.cls = RX10 ∧ yX10_forget.cls ≠ "java/lang/invoke/MethodHandle" ∧ yX10_forget.cls ≠ "java/lang/invoke/VarHandle" ∧ (parseMethodDescriptor yX10_forget.desc).map (fun d => d.parameters.length) = some 0 := by decide +kernel
theorem sl_X10_guess : yX10_guess.cls = RX10 ∧ yX10_guess.cls ≠ "java/lang/invoke/MethodHandle" ∧ yX10_guess.cls ≠ "java/lang/invoke/VarHandle" ∧ (parseMethodDescriptor yX10_guess.desc).map (fun d => d.parameters.length) = some 1 := by decide +kernel
theorem sl_X10_hearing : yX10_hearing.cls = RX10 ∧ yX10_hearing.cls ≠ "java/lang/invoke/MethodHandle" ∧ yX10_hearing.cls ≠ "java/lang/invoke/VarHandle" ∧ (parseMethodDescriptor yX10_hearing.desc).map (fun d => d.parameters.length) = some 1 := by decide +kernel
theorem sl_X10_image : yX10_image.cls = RX10 ∧ yX10_image.cls ≠ "java/lang/invoke/MethodHandle" ∧ yX10_image.cls ≠ "java/lang/invoke/VarHandle" ∧ (parseMethodDescriptor yX10_image.desc).map (fun d => d.parameters.length) = some 0 := by decide +kernel
theorem sl_X10_letter : yX10_letter.cls = RX10 ∧ yX10_letter.cls ≠ "java/lang/invoke/MethodHandle" ∧ yX10_letter.cls ≠ "java/lang/invoke/VarHandle" ∧ (parseMethodDescriptor yX10_letter.desc).map (fun d => d.parameters.length) = some 1 := by decide +kernel
theorem sl_X10_listen : yX10_listen.cls = RX10 ∧ yX10_listen.cls ≠ "java/lang/invoke/MethodHandle" ∧ yX10_listen.cls ≠ "java/lang/invoke/VarHandle" ∧ (parseMethodDescriptor yX10_listen.desc).map (fun d => d.parameters.length) = some 1 := by decide +kernel
theorem sl_X10_order : yX10_order.cls = RX10 ∧ yX10_order.cls ≠ "java/lang/invoke/MethodHandle" ∧ yX10_order.cls ≠ "java/lang/invoke/VarHandle" ∧ (parseMethodDescriptor yX10_order.desc).map (fun d => d.parameters.length) = some 1 := by decide +kernel
theorem sl_X10_piece : yX10_piece.cls = RX10 ∧ yX10_piece.cls ≠ "java/lang/invoke/MethodHandle" ∧ yX10_piece.cls ≠ "java/lang/invoke/VarHandle" ∧ (parseMethodDescriptor yX10_piece.desc).map (fun d => d.parameters.length) = some 0 := by decide +kernel
theorem sl_X10_play : yX10_play.cls = RX10 ∧ yX10_play.cls ≠ "java/lang/invoke/MethodHandle" ∧ yX10_play.cls ≠ "java/lang/invoke/VarHandle" ∧ (parseMethodDescriptor yX10_play.desc).map (fun d => d.parameters.length) = some 0 := by decide +kernel
theorem sl_X10_player : yX10_player.cls = RX10 ∧ yX10_player.cls ≠ "java/lang/invoke/MethodHandle" ∧ yX10_player.cls ≠ "java/lang/invoke/VarHandle" ∧ (parseMethodDescriptor yX10_player.desc).map (fun d => d.parameters.length) = some 2 := by decide +kernel
theorem sl_X10_restore : yX10_restore.cls = RX10 ∧ yX10_restore.cls ≠ "java/lang/invoke/MethodHandle" ∧ yX10_restore.cls ≠ "java/lang/invoke/VarHandle" ∧ (parseMethodDescriptor yX10_restore.desc).map (fun d => d.parameters.length) = some 0 := by decide +kernel
theorem sl_X10_tell : yX10_tell.cls = RX10 ∧ yX10_tell.cls ≠ "java/lang/invoke/MethodHandle" ∧ yX10_tell.cls ≠ "java/lang/invoke/VarHandle" ∧ (parseMethodDescriptor yX10_tell.desc).map (fun d => d.parameters.length) = some 2 := by decide +kernel
theorem sl_X10_tire : yX10_tire.cls = RX10 ∧ yX10_tire.cls ≠ "java/lang/invoke/MethodHandle" ∧ yX10_tire.cls ≠ "java/lang/invoke/VarHandle" ∧ (parseMethodDescriptor yX10_tire.desc).map (fun d => d.parameters.length) = some 2 := by decide +kernel
theorem sl_X9_about : yX9_about.cls = RX9 ∧ yX9_about.cls ≠ "java/lang/invoke/MethodHandle" ∧ yX9_about.cls ≠ "java/lang/invoke/VarHandle" ∧ (parseMethodDescriptor yX9_about.desc).map (fun d => d.parameters.length) = some 2 := by decide +kernel
theorem sl_X9_again : yX9_again.cls = RX9 ∧ yX9_again.cls ≠ "java/lang/invoke/MethodHandle" ∧ yX9_again.cls ≠ "java/lang/invoke/VarHandle" ∧ (parseMethodDescriptor yX9_again.desc).map (fun d => d.parameters.length) = some 0 := by decide +kernel
theorem sl_X9_as : yX9_as.cls = RX9 ∧ yX9_as.cls ≠ "java/lang/invoke/MethodHandle" ∧ yX9_as.cls ≠ "java/lang/invoke/VarHandle" ∧ (parseMethodDescriptor yX9_as.desc).map (fun d => d.parameters.length) = some 2 := by decide +kernel
theorem sl_X9_bar : yX9_bar.cls = RX9 ∧ yX9_bar.cls ≠ "java/lang/invoke/MethodHandle" ∧ yX9_bar.cls ≠ "java/lang/invoke/VarHandle" ∧ (parseMethodDescriptor yX9_bar.desc).map (fun d => d.parameters.length) = some 2 := by decide +kernel
theorem sl_X9_blank : yX9_blank.cls = RX9 ∧ yX9_blank.cls ≠ "java/lang/invoke/MethodHandle" ∧ yX9_blank.cls ≠ "java/lang/invoke/VarHandle" ∧ (parseMethodDescriptor yX9_blank.desc).map (fun d => d.parameters.length) = some 0 := by decide +kernel
theorem sl_X9_coffee : yX9_coffee.cls = RX9 ∧ yX9_coffee.cls ≠ "java/lang/invoke/MethodHandle" ∧ yX9_coffee.cls ≠ "java/lang/invoke/VarHandle" ∧ (parseMethodDescriptor yX9_coffee.desc).map (fun d => d.parameters.length) = some 1 := by decide +kernel
theorem sl_X9_count : yX9_count.cls = RX9 ∧ yX9_count.cls ≠ "java/lang/invoke/MethodHandle" ∧ yX9_count.cls ≠ "java/lang/invoke/VarHandle" ∧ (parseMethodDescriptor yX9_count.desc).map (fun d => d.parameters.length) = some 1 := by decide +kernel
theorem sl_X9_cups : yX9_cups.cls = RX9 ∧ yX9_cups.cls ≠ "java/lang/invoke/MethodHandle" ∧ yX9_cups.cls ≠ "java/lang/invoke/VarHandle" ∧ (parseMethodDescriptor yX9_cups.desc).map (fun d => d.parameters.length) = some 1 := by decide +kernel
theorem sl_X9_digest : yX9_digest.cls = RX9 ∧ yX9_digest.cls ≠ "java/lang/invoke/MethodHandle" ∧ yX9_digest.cls ≠ "java/lang/invoke/VarHandle" ∧ (parseMethodDescriptor yX9_digest.desc).map (fun d => d.parameters.length) = some 0 := by decide +kernel
theorem sl_X9_draughts : yX9_draughts.cls = RX9 ∧ yX9_draughts.cls ≠ "java/lang/invoke/MethodHandle" ∧ yX9_draughts.cls ≠ "java/lang/invoke/VarHandle" ∧ (parseMethodDescriptor yX9_draughts.desc).map (fun d => d.parameters.length) = some 3 := by decide +kernel
theorem sl_X9_fault : yX9_fault.cls = RX9 ∧ yX9_fault.cls ≠ "java/lang/invoke/MethodHandle" ∧ yX9_fault.cls ≠ "java/lang/invoke/VarHandle" ∧ (parseMethodDescriptor yX9_fault.desc).map (fun d => d.parameters.length) = some 0 := by decide +kernel
theorem sl_X9_forget : yX9_forget.cls = RX9 ∧ yX9_forget.cls ≠ "java/lang/invoke/MethodHandle" ∧ yX9_forget.cls ≠ "java/lang/invoke/VarHandle" ∧ (parseMethodDescriptor yX9_forget.desc).map (fun d => d.parameters.length) = some 0 := by decide +kernel
theorem sl_X9_guess : yX9_guess.cls = RX9 ∧ yX9_guess.cls ≠ "java/lang/invoke/MethodHandle" ∧ yX9_guess.cls ≠ "java/lang/invoke/VarHandle" ∧ (parseMethodDescriptor yX9_guess.desc).map (fun d => d.parameters.length) = some 1 := by decide +kernel
theorem sl_X9_hearing : yX9_hearing.cls = RX9 ∧ yX9_hearing.cls ≠ "java/lang/invoke/MethodHandle" ∧ yX9_hearing.cls ≠ "java/lang/invoke/VarHandle" ∧ (parseMethodDescriptor yX9_hearing.desc).map (fun d => d.parameters.length) = some 1 := by decide +kernel
theorem sl_X9_image : yX9_image.cls = RX9 ∧ yX9_image.cls ≠ "java/lang/invoke/MethodHandle" ∧ yX9_image.cls ≠ "java/lang/invoke/VarHandle" ∧ (parseMethodDescriptor yX9_image.desc).map (fun d => d.parameters.length) = some 0 := by decide +kernel
theorem sl_X9_letter : yX9_letter.cls = RX9 ∧ yX9_letter.cls ≠ "java/lang/invoke/MethodHandle" ∧ yX9_letter.cls ≠ "java/lang/invoke/VarHandle" ∧ (parseMethodDescriptor yX9_letter.desc).map (fun d => d.parameters.length) = some 1 := by decide +kernel
theorem sl_X9_listen : yX9_listen.cls = RX9 ∧ yX9_listen.cls ≠ "java/lang/invoke/MethodHandle" ∧ yX9_listen.cls ≠ "java/lang/invoke/VarHandle" ∧ (parseMethodDescriptor yX9_listen.desc).map (fun d => d.parameters.length) = some 1 := by decide +kernel
theorem sl_X9_order : yX9_order.cls = RX9 ∧ yX9_order.cls ≠ "java/lang/invoke/MethodHandle" ∧ yX9_order.cls ≠ "java/lang/invoke/VarHandle" ∧ (parseMethodDescriptor yX9_order.desc).map (fun d => d.parameters.length) = some 1 := by decide +kernel
theorem sl_X9_piece : yX9_piece.cls = RX9 ∧ yX9_piece.cls ≠ "java/lang/invoke/MethodHandle" ∧ yX9_piece.cls ≠ "java/lang/invoke/VarHandle" ∧ (parseMethodDescriptor yX9_piece.desc).map (fun d => d.parameters.length) = some 0 := by decide +kernel
theorem sl_X9_play : yX9_play.cls = RX9 ∧ yX9_play.cls ≠ "java/lang/invoke/MethodHandle" ∧ yX9_play.cls ≠ "java/lang/invoke/VarHandle" ∧ (parseMethodDescriptor yX9_play.desc).map (fun d => d.parameters.length) = some 0 := by decide +kernel
theorem sl_X9_player : yX9_player.cls = RX9 ∧ yX9_player.cls ≠ "java/lang/invoke/MethodHandle" ∧ yX9_player.cls ≠ "java/lang/invoke/VarHandle" ∧ (parseMethodDescriptor yX9_player.desc).map (fun d => d.parameters.length) = some 2 := by decide +kernel
theorem sl_X9_restore : yX9_restore.cls = RX9 ∧ yX9_restore.cls ≠ "java/lang/invoke/MethodHandle" ∧ yX9_restore.cls ≠ "java/lang/invoke/VarHandle" ∧ (parseMethodDescriptor yX9_restore.desc).map (fun d => d.parameters.length) = some 0 := by decide +kernel
theorem sl_X9_tell : yX9_tell.cls = RX9 ∧ yX9_tell.cls ≠ "java/lang/invoke/MethodHandle" ∧ yX9_tell.cls ≠ "java/lang/invoke/VarHandle" ∧ (parseMethodDescriptor yX9_tell.desc).map (fun d => d.parameters.length) = some 2 := by decide +kernel
theorem sl_X9_tire : yX9_tire.cls = RX9 ∧ yX9_tire.cls ≠ "java/lang/invoke/MethodHandle" ∧ yX9_tire.cls ≠ "java/lang/invoke/VarHandle" ∧ (parseMethodDescriptor yX9_tire.desc).map (fun d => d.parameters.length) = some 2 := by decide +kernel
set_option maxRecDepth 20000 in
theorem law_c0 {X : gT} {l : Launch} {D : va_G} {cI : ClassId} {b L : Nat} {xs : Nat → Int32} (hL : L ≤ 256) (hX : OKB X l D cI RL cL_law 4 100 600000 7302250) (hLK : LK X b L xs) (qc qm : Nat → Nat) (j : Nat) (σ : Sg) (f f2 : Nat → Int) (r r2 : Nat → Nat → Int) (hj : 4 * j + 4 ≤ L) (hσ : sOK σ j) (hc : CRel f r σ) (hm : MRel f2 r2 σ)
    (J687 : ∀ (σ1 : Sg) (f3 f4 : Nat → Int) (r3 r4 : Nat → Nat → Int), sOK σ1 (j + 1) → CRel f3 r3 σ1 → MRel f4 r4 σ1 → G X 4 43 353 (cW cI qc f3 r3 ++ mW cI qm f4 r4) [(0, .ref b), (1, .ref (qc 0)), (2, .ref (qm 0)), (3, .int (zI (4 * (j : Int))))] 687 []) :
    G X 4 43 353 (cW cI qc f r ++ mW cI qm f2 r2) [(0, .ref b), (1, .ref (qc 0)), (2, .ref (qm 0)), (3, .int (zI (4 * (j : Int))))] 144 [] := by
  refine zg_aload_n hX 1 rfl dL_law_144 rfl 145 rfl ?_
  refine zg_aload_n hX 0 rfl dL_law_145 rfl 146 rfl ?_
  refine zg_iload_n hX 3 rfl dL_law_146 rfl 147 rfl ?_
  refine zg_iconst hX dL_law_147 148 rfl ?_
  refine zg_iadd hX dL_law_148 149 rfl ?_
  refine zg_sld hX hL hLK (4 * j + 1) (by omega) (by omega) dL_law_149 150 rfl ?_
  refine zg_callP (As := [.int (zI (xs (4 * j + 1)).toInt)]) (rest := []) (wc := (cW cI qc f r)) (k0 := 0) (ci := 8) (C := RX9) (T := TX9) (N := 13) (idx := 13) hX (mW cI qm f2 r2) [0, 1, 2, 3, 4, 5, 6, 7, 8, 9, 10, 11, 12, 13, 14, 15, 16, 17, 18, 19, 20, 21, 22, 23, 24, 25, 26, 27, 28] [29, 30, 31, 32, 33, 34, 35, 36, 37, 38, 39, 40, 41, 42] (c_X9_letter l D cI qc f r σ j ((xs (4 * j + 1)).toInt) hσ (by omega) hc (zI_rng _)) mw_289 mw_290 mw_291 mw_1 mw_292 sl_X9_letter (by decide) (by decide) (by decide) (by decide) rfl rfl (lj_cm_C cI qc qm f f2 r r2) (lj_cm_F cI qc qm f f2 r r2) lj_n1.1 (lj_cm_R cI qc qm f f2 r r2) lj_n1.2.1 lj_d1 rfl (Nat.le_of_ble_eq_true rfl) dL_law_150 153 rfl (fun v W1 hp => ?_)
  obtain ⟨f3, r3, rfl, rfl, hc3⟩ := hp
  show G X 4 43 353 (mW cI qm f2 r2 ++ cW cI qc f3 r3) [(0, .ref b), (1, .ref (qc 0)), (2, .ref (qm 0)), (3, .int (zI (4 * (j : Int))))] 153 [.int (zI (o_letter σ ((xs (4 * j + 1)).toInt)).2)]
  refine zg_aload_n hX 2 rfl dL_law_153 rfl 154 rfl ?_
  refine zg_aload_n hX 0 rfl dL_law_154 rfl 155 rfl ?_
  refine zg_iload_n hX 3 rfl dL_law_155 rfl 156 rfl ?_
  refine zg_iconst hX dL_law_156 157 rfl ?_
  refine zg_iadd hX dL_law_157 158 rfl ?_
  refine zg_sld hX hL hLK (4 * j + 1) (by omega) (by omega) dL_law_158 159 rfl ?_
  refine zg_callP (As := [.int (zI (xs (4 * j + 1)).toInt)]) (rest := [.int (zI (o_letter σ ((xs (4 * j + 1)).toInt)).2)]) (wc := (mW cI qm f2 r2)) (k0 := 0) (ci := 9) (C := RX10) (T := TX10) (N := 33) (idx := 17) hX (cW cI qc f3 r3) [0, 1, 2, 3, 4, 5, 6, 7, 8, 9, 10, 11, 12, 13] [14, 15, 16, 17, 18, 19, 20, 21, 22, 23, 24, 25, 26, 27, 28, 29, 30, 31, 32, 33, 34, 35, 36, 37, 38, 39, 40, 41, 42] (c_X10_letter l D cI qm f2 r2 σ j ((xs (4 * j + 1)).toInt) hσ (by omega) hm (zI_rng _)) mw_741 mw_742 mw_743 mw_10 mw_744 sl_X10_letter (by decide) (by decide) (by decide) (by decide) rfl rfl (lj_mc_C cI qc qm f3 f2 r3 r2) (lj_mc_F cI qc qm f3 f2 r3 r2) lj_n1.2.2.1 (lj_mc_R cI qc qm f3 f2 r3 r2) lj_n1.2.2.2 lj_d2 rfl (Nat.le_of_ble_eq_true rfl) dL_law_159 162 rfl (fun v W1 hp => ?_)
  obtain ⟨f4, r4, rfl, rfl, hm4⟩ := hp
  show G X 4 43 353 (cW cI qc f3 r3 ++ mW cI qm f4 r4) [(0, .ref b), (1, .ref (qc 0)), (2, .ref (qm 0)), (3, .int (zI (4 * (j : Int))))] 162 [.int (zI (o_letter σ ((xs (4 * j + 1)).toInt)).2), .int (zI (o_letter σ ((xs (4 * j + 1)).toInt)).2)]
  refine zg_icsame hX dL_law_162 687 (by decide) ?_
  exact J687 _ f3 f4 r3 r4 (k_letter hσ ((xs (4 * j + 1)).toInt)) hc3 hm4
set_option maxRecDepth 20000 in
theorem law_c1 {X : gT} {l : Launch} {D : va_G} {cI : ClassId} {b L : Nat} {xs : Nat → Int32} (hL : L ≤ 256) (hX : OKB X l D cI RL cL_law 4 100 600000 7302250) (hLK : LK X b L xs) (qc qm : Nat → Nat) (j : Nat) (σ : Sg) (f f2 : Nat → Int) (r r2 : Nat → Nat → Int) (hj : 4 * j + 4 ≤ L) (hσ : sOK σ j) (hc : CRel f r σ) (hm : MRel f2 r2 σ)
    (J687 : ∀ (σ1 : Sg) (f3 f4 : Nat → Int) (r3 r4 : Nat → Nat → Int), sOK σ1 (j + 1) → CRel f3 r3 σ1 → MRel f4 r4 σ1 → G X 4 43 353 (cW cI qc f3 r3 ++ mW cI qm f4 r4) [(0, .ref b), (1, .ref (qc 0)), (2, .ref (qm 0)), (3, .int (zI (4 * (j : Int))))] 687 []) :
    G X 4 43 353 (cW cI qc f r ++ mW cI qm f2 r2) [(0, .ref b), (1, .ref (qc 0)), (2, .ref (qm 0)), (3, .int (zI (4 * (j : Int))))] 167 [] := by
  refine zg_aload_n hX 1 rfl dL_law_167 rfl 168 rfl ?_
  refine zg_callP (As := []) (rest := []) (wc := (cW cI qc f r)) (k0 := 0) (ci := 8) (C := RX9) (T := TX9) (N := 13) (idx := 18) hX (mW cI qm f2 r2) [0, 1, 2, 3, 4, 5, 6, 7, 8, 9, 10, 11, 12, 13, 14, 15, 16, 17, 18, 19, 20, 21, 22, 23, 24, 25, 26, 27, 28] [29, 30, 31, 32, 33, 34, 35, 36, 37, 38, 39, 40, 41, 42] (c_X9_blank l D cI qc f r σ j hσ (by omega) hc) mw_297 mw_298 mw_299 mw_1 mw_300 sl_X9_blank (by decide) (by decide) (by decide) (by decide) rfl rfl (lj_cm_C cI qc qm f f2 r r2) (lj_cm_F cI qc qm f f2 r r2) lj_n1.1 (lj_cm_R cI qc qm f f2 r r2) lj_n1.2.1 lj_d1 rfl (Nat.le_of_ble_eq_true rfl) dL_law_168 171 rfl (fun v W1 hp => ?_)
  obtain ⟨f3, r3, rfl, rfl, hc3⟩ := hp
  show G X 4 43 353 (mW cI qm f2 r2 ++ cW cI qc f3 r3) [(0, .ref b), (1, .ref (qc 0)), (2, .ref (qm 0)), (3, .int (zI (4 * (j : Int))))] 171 [.int (zI (o_blank σ).2)]
  refine zg_aload_n hX 2 rfl dL_law_171 rfl 172 rfl ?_
  refine zg_callP (As := []) (rest := [.int (zI (o_blank σ).2)]) (wc := (mW cI qm f2 r2)) (k0 := 0) (ci := 9) (C := RX10) (T := TX10) (N := 33) (idx := 22) hX (cW cI qc f3 r3) [0, 1, 2, 3, 4, 5, 6, 7, 8, 9, 10, 11, 12, 13] [14, 15, 16, 17, 18, 19, 20, 21, 22, 23, 24, 25, 26, 27, 28, 29, 30, 31, 32, 33, 34, 35, 36, 37, 38, 39, 40, 41, 42] (c_X10_blank l D cI qm f2 r2 σ j hσ (by omega) hm) mw_749 mw_750 mw_751 mw_10 mw_752 sl_X10_blank (by decide) (by decide) (by decide) (by decide) rfl rfl (lj_mc_C cI qc qm f3 f2 r3 r2) (lj_mc_F cI qc qm f3 f2 r3 r2) lj_n1.2.2.1 (lj_mc_R cI qc qm f3 f2 r3 r2) lj_n1.2.2.2 lj_d2 rfl (Nat.le_of_ble_eq_true rfl) dL_law_172 175 rfl (fun v W1 hp => ?_)
  obtain ⟨f4, r4, rfl, rfl, hm4⟩ := hp
  show G X 4 43 353 (cW cI qc f3 r3 ++ mW cI qm f4 r4) [(0, .ref b), (1, .ref (qc 0)), (2, .ref (qm 0)), (3, .int (zI (4 * (j : Int))))] 175 [.int (zI (o_blank σ).2), .int (zI (o_blank σ).2)]
  refine zg_icsame hX dL_law_175 687 (by decide) ?_
  exact J687 _ f3 f4 r3 r4 (k_blank hσ) hc3 hm4
set_option maxRecDepth 20000 in
theorem law_c2 {X : gT} {l : Launch} {D : va_G} {cI : ClassId} {b L : Nat} {xs : Nat → Int32} (hL : L ≤ 256) (hX : OKB X l D cI RL cL_law 4 100 600000 7302250) (hLK : LK X b L xs) (qc qm : Nat → Nat) (j : Nat) (σ : Sg) (f f2 : Nat → Int) (r r2 : Nat → Nat → Int) (hj : 4 * j + 4 ≤ L) (hσ : sOK σ j) (hc : CRel f r σ) (hm : MRel f2 r2 σ)
    (J687 : ∀ (σ1 : Sg) (f3 f4 : Nat → Int) (r3 r4 : Nat → Nat → Int), sOK σ1 (j + 1) → CRel f3 r3 σ1 → MRel f4 r4 σ1 → G X 4 43 353 (cW cI qc f3 r3 ++ mW cI qm f4 r4) [(0, .ref b), (1, .ref (qc 0)), (2, .ref (qm 0)), (3, .int (zI (4 * (j : Int))))] 687 []) :
    G X 4 43 353 (cW cI qc f r ++ mW cI qm f2 r2) [(0, .ref b), (1, .ref (qc 0)), (2, .ref (qm 0)), (3, .int (zI (4 * (j : Int))))] 180 [] := by
  refine zg_aload_n hX 1 rfl dL_law_180 rfl 181 rfl ?_
  refine zg_callP (As := []) (rest := []) (wc := (cW cI qc f r)) (k0 := 0) (ci := 8) (C := RX9) (T := TX9) (N := 13) (idx := 23) hX (mW cI qm f2 r2) [0, 1, 2, 3, 4, 5, 6, 7, 8, 9, 10, 11, 12, 13, 14, 15, 16, 17, 18, 19, 20, 21, 22, 23, 24, 25, 26, 27, 28] [29, 30, 31, 32, 33, 34, 35, 36, 37, 38, 39, 40, 41, 42] (c_X9_fault l D cI qc f r σ j hσ (by omega) hc) mw_301 mw_302 mw_303 mw_1 mw_304 sl_X9_fault (by decide) (by decide) (by decide) (by decide) rfl rfl (lj_cm_C cI qc qm f f2 r r2) (lj_cm_F cI qc qm f f2 r r2) lj_n1.1 (lj_cm_R cI qc qm f f2 r r2) lj_n1.2.1 lj_d1 rfl (Nat.le_of_ble_eq_true rfl) dL_law_181 184 rfl (fun v W1 hp => ?_)
  obtain ⟨f3, r3, rfl, rfl, hc3⟩ := hp
  show G X 4 43 353 (mW cI qm f2 r2 ++ cW cI qc f3 r3) [(0, .ref b), (1, .ref (qc 0)), (2, .ref (qm 0)), (3, .int (zI (4 * (j : Int))))] 184 [.int (zI (o_fault σ).2)]
  refine zg_aload_n hX 2 rfl dL_law_184 rfl 185 rfl ?_
  refine zg_callP (As := []) (rest := [.int (zI (o_fault σ).2)]) (wc := (mW cI qm f2 r2)) (k0 := 0) (ci := 9) (C := RX10) (T := TX10) (N := 33) (idx := 26) hX (cW cI qc f3 r3) [0, 1, 2, 3, 4, 5, 6, 7, 8, 9, 10, 11, 12, 13] [14, 15, 16, 17, 18, 19, 20, 21, 22, 23, 24, 25, 26, 27, 28, 29, 30, 31, 32, 33, 34, 35, 36, 37, 38, 39, 40, 41, 42] (c_X10_fault l D cI qm f2 r2 σ j hσ (by omega) hm) mw_753 mw_754 mw_755 mw_10 mw_756 sl_X10_fault (by decide) (by decide) (by decide) (by decide) rfl rfl (lj_mc_C cI qc qm f3 f2 r3 r2) (lj_mc_F cI qc qm f3 f2 r3 r2) lj_n1.2.2.1 (lj_mc_R cI qc qm f3 f2 r3 r2) lj_n1.2.2.2 lj_d2 rfl (Nat.le_of_ble_eq_true rfl) dL_law_185 188 rfl (fun v W1 hp => ?_)
  obtain ⟨f4, r4, rfl, rfl, hm4⟩ := hp
  show G X 4 43 353 (cW cI qc f3 r3 ++ mW cI qm f4 r4) [(0, .ref b), (1, .ref (qc 0)), (2, .ref (qm 0)), (3, .int (zI (4 * (j : Int))))] 188 [.int (zI (o_fault σ).2), .int (zI (o_fault σ).2)]
  refine zg_icsame hX dL_law_188 687 (by decide) ?_
  exact J687 _ f3 f4 r3 r4 (sOK_up hσ) hc3 hm4
set_option maxRecDepth 20000 in
theorem law_c3 {X : gT} {l : Launch} {D : va_G} {cI : ClassId} {b L : Nat} {xs : Nat → Int32} (hL : L ≤ 256) (hX : OKB X l D cI RL cL_law 4 100 600000 7302250) (hLK : LK X b L xs) (qc qm : Nat → Nat) (j : Nat) (σ : Sg) (f f2 : Nat → Int) (r r2 : Nat → Nat → Int) (hj : 4 * j + 4 ≤ L) (hσ : sOK σ j) (hc : CRel f r σ) (hm : MRel f2 r2 σ)
    (J687 : ∀ (σ1 : Sg) (f3 f4 : Nat → Int) (r3 r4 : Nat → Nat → Int), sOK σ1 (j + 1) → CRel f3 r3 σ1 → MRel f4 r4 σ1 → G X 4 43 353 (cW cI qc f3 r3 ++ mW cI qm f4 r4) [(0, .ref b), (1, .ref (qc 0)), (2, .ref (qm 0)), (3, .int (zI (4 * (j : Int))))] 687 []) :
    G X 4 43 353 (cW cI qc f r ++ mW cI qm f2 r2) [(0, .ref b), (1, .ref (qc 0)), (2, .ref (qm 0)), (3, .int (zI (4 * (j : Int))))] 193 [] := by
  refine zg_aload_n hX 1 rfl dL_law_193 rfl 194 rfl ?_
  refine zg_callP (As := []) (rest := []) (wc := (cW cI qc f r)) (k0 := 0) (ci := 8) (C := RX9) (T := TX9) (N := 13) (idx := 27) hX (mW cI qm f2 r2) [0, 1, 2, 3, 4, 5, 6, 7, 8, 9, 10, 11, 12, 13, 14, 15, 16, 17, 18, 19, 20, 21, 22, 23, 24, 25, 26, 27, 28] [29, 30, 31, 32, 33, 34, 35, 36, 37, 38, 39, 40, 41, 42] (c_X9_piece l D cI qc f r σ j hσ (by omega) hc) mw_318 mw_319 mw_320 mw_1 mw_321 sl_X9_piece (by decide) (by decide) (by decide) (by decide) rfl rfl (lj_cm_C cI qc qm f f2 r r2) (lj_cm_F cI qc qm f f2 r r2) lj_n1.1 (lj_cm_R cI qc qm f f2 r r2) lj_n1.2.1 lj_d1 rfl (Nat.le_of_ble_eq_true rfl) dL_law_194 197 rfl (fun v W1 hp => ?_)
  obtain ⟨f3, r3, rfl, rfl, hc3⟩ := hp
  show G X 4 43 353 (mW cI qm f2 r2 ++ cW cI qc f3 r3) [(0, .ref b), (1, .ref (qc 0)), (2, .ref (qm 0)), (3, .int (zI (4 * (j : Int))))] 197 [.int (zI (o_piece σ).2)]
  refine zg_aload_n hX 2 rfl dL_law_197 rfl 198 rfl ?_
  refine zg_callP (As := []) (rest := [.int (zI (o_piece σ).2)]) (wc := (mW cI qm f2 r2)) (k0 := 0) (ci := 9) (C := RX10) (T := TX10) (N := 33) (idx := 30) hX (cW cI qc f3 r3) [0, 1, 2, 3, 4, 5, 6, 7, 8, 9, 10, 11, 12, 13] [14, 15, 16, 17, 18, 19, 20, 21, 22, 23, 24, 25, 26, 27, 28, 29, 30, 31, 32, 33, 34, 35, 36, 37, 38, 39, 40, 41, 42] (c_X10_piece l D cI qm f2 r2 σ j hσ (by omega) hm) mw_770 mw_771 mw_772 mw_10 mw_773 sl_X10_piece (by decide) (by decide) (by decide) (by decide) rfl rfl (lj_mc_C cI qc qm f3 f2 r3 r2) (lj_mc_F cI qc qm f3 f2 r3 r2) lj_n1.2.2.1 (lj_mc_R cI qc qm f3 f2 r3 r2) lj_n1.2.2.2 lj_d2 rfl (Nat.le_of_ble_eq_true rfl) dL_law_198 201 rfl (fun v W1 hp => ?_)
  obtain ⟨f4, r4, rfl, rfl, hm4⟩ := hp
  show G X 4 43 353 (cW cI qc f3 r3 ++ mW cI qm f4 r4) [(0, .ref b), (1, .ref (qc 0)), (2, .ref (qm 0)), (3, .int (zI (4 * (j : Int))))] 201 [.int (zI (o_piece σ).2), .int (zI (o_piece σ).2)]
  refine zg_icsame hX dL_law_201 687 (by decide) ?_
  exact J687 _ f3 f4 r3 r4 (k_piece hσ) hc3 hm4
set_option maxRecDepth 20000 in
theorem law_c4 {X : gT} {l : Launch} {D : va_G} {cI : ClassId} {b L : Nat} {xs : Nat → Int32} (hL : L ≤ 256) (hX : OKB X l D cI RL cL_law 4 100 600000 7302250) (hLK : LK X b L xs) (qc qm : Nat → Nat) (j : Nat) (σ : Sg) (f f2 : Nat → Int) (r r2 : Nat → Nat → Int) (hj : 4 * j + 4 ≤ L) (hσ : sOK σ j) (hc : CRel f r σ) (hm : MRel f2 r2 σ)
    (J687 : ∀ (σ1 : Sg) (f3 f4 : Nat → Int) (r3 r4 : Nat → Nat → Int), sOK σ1 (j + 1) → CRel f3 r3 σ1 → MRel f4 r4 σ1 → G X 4 43 353 (cW cI qc f3 r3 ++ mW cI qm f4 r4) [(0, .ref b), (1, .ref (qc 0)), (2, .ref (qm 0)), (3, .int (zI (4 * (j : Int))))] 687 []) :
    G X 4 43 353 (cW cI qc f r ++ mW cI qm f2 r2) [(0, .ref b), (1, .ref (qc 0)), (2, .ref (qm 0)), (3, .int (zI (4 * (j : Int))))] 206 [] := by
  refine zg_aload_n hX 1 rfl dL_law_206 rfl 207 rfl ?_
  refine zg_aload_n hX 0 rfl dL_law_207 rfl 208 rfl ?_
  refine zg_iload_n hX 3 rfl dL_law_208 rfl 209 rfl ?_
  refine zg_iconst hX dL_law_209 210 rfl ?_
  refine zg_iadd hX dL_law_210 211 rfl ?_
  refine zg_sld hX hL hLK (4 * j + 1) (by omega) (by omega) dL_law_211 212 rfl ?_
  refine zg_aload_n hX 0 rfl dL_law_212 rfl 213 rfl ?_
  refine zg_iload_n hX 3 rfl dL_law_213 rfl 214 rfl ?_
  refine zg_iconst hX dL_law_214 215 rfl ?_
  refine zg_iadd hX dL_law_215 216 rfl ?_
  refine zg_sld hX hL hLK (4 * j + 2) (by omega) (by omega) dL_law_216 217 rfl ?_
  refine zg_callP (As := [.int (zI (xs (4 * j + 1)).toInt), .int (zI (xs (4 * j + 2)).toInt)]) (rest := []) (wc := (cW cI qc f r)) (k0 := 0) (ci := 8) (C := RX9) (T := TX9) (N := 13) (idx := 31) hX (mW cI qm f2 r2) [0, 1, 2, 3, 4, 5, 6, 7, 8, 9, 10, 11, 12, 13, 14, 15, 16, 17, 18, 19, 20, 21, 22, 23, 24, 25, 26, 27, 28] [29, 30, 31, 32, 33, 34, 35, 36, 37, 38, 39, 40, 41, 42] (c_X9_bar l D cI qc f r σ j ((xs (4 * j + 1)).toInt) ((xs (4 * j + 2)).toInt) hσ (by omega) hc (zI_rng _) (zI_rng _)) mw_342 mw_343 mw_344 mw_1 mw_345 sl_X9_bar (by decide) (by decide) (by decide) (by decide) rfl rfl (lj_cm_C cI qc qm f f2 r r2) (lj_cm_F cI qc qm f f2 r r2) lj_n1.1 (lj_cm_R cI qc qm f f2 r r2) lj_n1.2.1 lj_d1 rfl (Nat.le_of_ble_eq_true rfl) dL_law_217 220 rfl (fun v W1 hp => ?_)
  obtain ⟨f3, r3, rfl, rfl, hc3⟩ := hp
  show G X 4 43 353 (mW cI qm f2 r2 ++ cW cI qc f3 r3) [(0, .ref b), (1, .ref (qc 0)), (2, .ref (qm 0)), (3, .int (zI (4 * (j : Int))))] 220 [.int (zI (o_bar σ ((xs (4 * j + 1)).toInt) ((xs (4 * j + 2)).toInt)).2)]
  refine zg_aload_n hX 2 rfl dL_law_220 rfl 221 rfl ?_
  refine zg_aload_n hX 0 rfl dL_law_221 rfl 222 rfl ?_
  refine zg_iload_n hX 3 rfl dL_law_222 rfl 223 rfl ?_
  refine zg_iconst hX dL_law_223 224 rfl ?_
  refine zg_iadd hX dL_law_224 225 rfl ?_
  refine zg_sld hX hL hLK (4 * j + 1) (by omega) (by omega) dL_law_225 226 rfl ?_
  refine zg_aload_n hX 0 rfl dL_law_226 rfl 227 rfl ?_
  refine zg_iload_n hX 3 rfl dL_law_227 rfl 228 rfl ?_
  refine zg_iconst hX dL_law_228 229 rfl ?_
  refine zg_iadd hX dL_law_229 230 rfl ?_
  refine zg_sld hX hL hLK (4 * j + 2) (by omega) (by omega) dL_law_230 231 rfl ?_
  refine zg_callP (As := [.int (zI (xs (4 * j + 1)).toInt), .int (zI (xs (4 * j + 2)).toInt)]) (rest := [.int (zI (o_bar σ ((xs (4 * j + 1)).toInt) ((xs (4 * j + 2)).toInt)).2)]) (wc := (mW cI qm f2 r2)) (k0 := 0) (ci := 9) (C := RX10) (T := TX10) (N := 33) (idx := 35) hX (cW cI qc f3 r3) [0, 1, 2, 3, 4, 5, 6, 7, 8, 9, 10, 11, 12, 13] [14, 15, 16, 17, 18, 19, 20, 21, 22, 23, 24, 25, 26, 27, 28, 29, 30, 31, 32, 33, 34, 35, 36, 37, 38, 39, 40, 41, 42] (c_X10_bar l D cI qm f2 r2 σ j ((xs (4 * j + 1)).toInt) ((xs (4 * j + 2)).toInt) hσ (by omega) hm (zI_rng _) (zI_rng _)) mw_785 mw_786 mw_787 mw_10 mw_788 sl_X10_bar (by decide) (by decide) (by decide) (by decide) rfl rfl (lj_mc_C cI qc qm f3 f2 r3 r2) (lj_mc_F cI qc qm f3 f2 r3 r2) lj_n1.2.2.1 (lj_mc_R cI qc qm f3 f2 r3 r2) lj_n1.2.2.2 lj_d2 rfl (Nat.le_of_ble_eq_true rfl) dL_law_231 234 rfl (fun v W1 hp => ?_)
  obtain ⟨f4, r4, rfl, rfl, hm4⟩ := hp
  show G X 4 43 353 (cW cI qc f3 r3 ++ mW cI qm f4 r4) [(0, .ref b), (1, .ref (qc 0)), (2, .ref (qm 0)), (3, .int (zI (4 * (j : Int))))] 234 [.int (zI (o_bar σ ((xs (4 * j + 1)).toInt) ((xs (4 * j + 2)).toInt)).2), .int (zI (o_bar σ ((xs (4 * j + 1)).toInt) ((xs (4 * j + 2)).toInt)).2)]
  refine zg_icsame hX dL_law_234 687 (by decide) ?_
  exact J687 _ f3 f4 r3 r4 (sOK_up hσ) hc3 hm4
set_option maxRecDepth 20000 in
theorem law_c5 {X : gT} {l : Launch} {D : va_G} {cI : ClassId} {b L : Nat} {xs : Nat → Int32} (hL : L ≤ 256) (hX : OKB X l D cI RL cL_law 4 100 600000 7302250) (hLK : LK X b L xs) (qc qm : Nat → Nat) (j : Nat) (σ : Sg) (f f2 : Nat → Int) (r r2 : Nat → Nat → Int) (hj : 4 * j + 4 ≤ L) (hσ : sOK σ j) (hc : CRel f r σ) (hm : MRel f2 r2 σ)
    (J687 : ∀ (σ1 : Sg) (f3 f4 : Nat → Int) (r3 r4 : Nat → Nat → Int), sOK σ1 (j + 1) → CRel f3 r3 σ1 → MRel f4 r4 σ1 → G X 4 43 353 (cW cI qc f3 r3 ++ mW cI qm f4 r4) [(0, .ref b), (1, .ref (qc 0)), (2, .ref (qm 0)), (3, .int (zI (4 * (j : Int))))] 687 []) :
    G X 4 43 353 (cW cI qc f r ++ mW cI qm f2 r2) [(0, .ref b), (1, .ref (qc 0)), (2, .ref (qm 0)), (3, .int (zI (4 * (j : Int))))] 239 [] := by
  refine zg_aload_n hX 1 rfl dL_law_239 rfl 240 rfl ?_
  refine zg_aload_n hX 0 rfl dL_law_240 rfl 241 rfl ?_
  refine zg_iload_n hX 3 rfl dL_law_241 rfl 242 rfl ?_
  refine zg_iconst hX dL_law_242 243 rfl ?_
  refine zg_iadd hX dL_law_243 244 rfl ?_
  refine zg_sld hX hL hLK (4 * j + 1) (by omega) (by omega) dL_law_244 245 rfl ?_
  refine zg_aload_n hX 0 rfl dL_law_245 rfl 246 rfl ?_
  refine zg_iload_n hX 3 rfl dL_law_246 rfl 247 rfl ?_
  refine zg_iconst hX dL_law_247 248 rfl ?_
  refine zg_iadd hX dL_law_248 249 rfl ?_
  refine zg_sld hX hL hLK (4 * j + 2) (by omega) (by omega) dL_law_249 250 rfl ?_
  refine zg_callP (As := [.int (zI (xs (4 * j + 1)).toInt), .int (zI (xs (4 * j + 2)).toInt)]) (rest := []) (wc := (cW cI qc f r)) (k0 := 0) (ci := 8) (C := RX9) (T := TX9) (N := 13) (idx := 36) hX (mW cI qm f2 r2) [0, 1, 2, 3, 4, 5, 6, 7, 8, 9, 10, 11, 12, 13, 14, 15, 16, 17, 18, 19, 20, 21, 22, 23, 24, 25, 26, 27, 28] [29, 30, 31, 32, 33, 34, 35, 36, 37, 38, 39, 40, 41, 42] (c_X9_player l D cI qc f r σ j ((xs (4 * j + 1)).toInt) ((xs (4 * j + 2)).toInt) hσ (by omega) hc (zI_rng _) (zI_rng _)) mw_398 mw_399 mw_400 mw_1 mw_401 sl_X9_player (by decide) (by decide) (by decide) (by decide) rfl rfl (lj_cm_C cI qc qm f f2 r r2) (lj_cm_F cI qc qm f f2 r r2) lj_n1.1 (lj_cm_R cI qc qm f f2 r r2) lj_n1.2.1 lj_d1 rfl (Nat.le_of_ble_eq_true rfl) dL_law_250 253 rfl (fun v W1 hp => ?_)
  obtain ⟨f3, r3, rfl, rfl, hc3⟩ := hp
  show G X 4 43 353 (mW cI qm f2 r2 ++ cW cI qc f3 r3) [(0, .ref b), (1, .ref (qc 0)), (2, .ref (qm 0)), (3, .int (zI (4 * (j : Int))))] 253 [.int (zI (o_player σ ((xs (4 * j + 1)).toInt) ((xs (4 * j + 2)).toInt)).2)]
  refine zg_aload_n hX 2 rfl dL_law_253 rfl 254 rfl ?_
  refine zg_aload_n hX 0 rfl dL_law_254 rfl 255 rfl ?_
  refine zg_iload_n hX 3 rfl dL_law_255 rfl 256 rfl ?_
  refine zg_iconst hX dL_law_256 257 rfl ?_
  refine zg_iadd hX dL_law_257 258 rfl ?_
  refine zg_sld hX hL hLK (4 * j + 1) (by omega) (by omega) dL_law_258 259 rfl ?_
  refine zg_aload_n hX 0 rfl dL_law_259 rfl 260 rfl ?_
  refine zg_iload_n hX 3 rfl dL_law_260 rfl 261 rfl ?_
  refine zg_iconst hX dL_law_261 262 rfl ?_
  refine zg_iadd hX dL_law_262 263 rfl ?_
  refine zg_sld hX hL hLK (4 * j + 2) (by omega) (by omega) dL_law_263 264 rfl ?_
  refine zg_callP (As := [.int (zI (xs (4 * j + 1)).toInt), .int (zI (xs (4 * j + 2)).toInt)]) (rest := [.int (zI (o_player σ ((xs (4 * j + 1)).toInt) ((xs (4 * j + 2)).toInt)).2)]) (wc := (mW cI qm f2 r2)) (k0 := 0) (ci := 9) (C := RX10) (T := TX10) (N := 33) (idx := 39) hX (cW cI qc f3 r3) [0, 1, 2, 3, 4, 5, 6, 7, 8, 9, 10, 11, 12, 13] [14, 15, 16, 17, 18, 19, 20, 21, 22, 23, 24, 25, 26, 27, 28, 29, 30, 31, 32, 33, 34, 35, 36, 37, 38, 39, 40, 41, 42] (c_X10_player l D cI qm f2 r2 σ j ((xs (4 * j + 1)).toInt) ((xs (4 * j + 2)).toInt) hσ (by omega) hm (zI_rng _) (zI_rng _)) mw_777 mw_778 mw_779 mw_10 mw_780 sl_X10_player (by decide) (by decide) (by decide) (by decide) rfl rfl (lj_mc_C cI qc qm f3 f2 r3 r2) (lj_mc_F cI qc qm f3 f2 r3 r2) lj_n1.2.2.1 (lj_mc_R cI qc qm f3 f2 r3 r2) lj_n1.2.2.2 lj_d2 rfl (Nat.le_of_ble_eq_true rfl) dL_law_264 267 rfl (fun v W1 hp => ?_)
  obtain ⟨f4, r4, rfl, rfl, hm4⟩ := hp
  show G X 4 43 353 (cW cI qc f3 r3 ++ mW cI qm f4 r4) [(0, .ref b), (1, .ref (qc 0)), (2, .ref (qm 0)), (3, .int (zI (4 * (j : Int))))] 267 [.int (zI (o_player σ ((xs (4 * j + 1)).toInt) ((xs (4 * j + 2)).toInt)).2), .int (zI (o_player σ ((xs (4 * j + 1)).toInt) ((xs (4 * j + 2)).toInt)).2)]
  refine zg_icsame hX dL_law_267 687 (by decide) ?_
  exact J687 _ f3 f4 r3 r4 (k_player hσ ((xs (4 * j + 1)).toInt) ((xs (4 * j + 2)).toInt)) hc3 hm4
set_option maxRecDepth 20000 in
theorem law_c6 {X : gT} {l : Launch} {D : va_G} {cI : ClassId} {b L : Nat} {xs : Nat → Int32} (hL : L ≤ 256) (hX : OKB X l D cI RL cL_law 4 100 600000 7302250) (hLK : LK X b L xs) (qc qm : Nat → Nat) (j : Nat) (σ : Sg) (f f2 : Nat → Int) (r r2 : Nat → Nat → Int) (hj : 4 * j + 4 ≤ L) (hσ : sOK σ j) (hc : CRel f r σ) (hm : MRel f2 r2 σ)
    (J687 : ∀ (σ1 : Sg) (f3 f4 : Nat → Int) (r3 r4 : Nat → Nat → Int), sOK σ1 (j + 1) → CRel f3 r3 σ1 → MRel f4 r4 σ1 → G X 4 43 353 (cW cI qc f3 r3 ++ mW cI qm f4 r4) [(0, .ref b), (1, .ref (qc 0)), (2, .ref (qm 0)), (3, .int (zI (4 * (j : Int))))] 687 []) :
    G X 4 43 353 (cW cI qc f r ++ mW cI qm f2 r2) [(0, .ref b), (1, .ref (qc 0)), (2, .ref (qm 0)), (3, .int (zI (4 * (j : Int))))] 272 [] := by
  refine zg_aload_n hX 1 rfl dL_law_272 rfl 273 rfl ?_
  refine zg_aload_n hX 0 rfl dL_law_273 rfl 274 rfl ?_
  refine zg_iload_n hX 3 rfl dL_law_274 rfl 275 rfl ?_
  refine zg_iconst hX dL_law_275 276 rfl ?_
  refine zg_iadd hX dL_law_276 277 rfl ?_
  refine zg_sld hX hL hLK (4 * j + 1) (by omega) (by omega) dL_law_277 278 rfl ?_
  refine zg_aload_n hX 0 rfl dL_law_278 rfl 279 rfl ?_
  refine zg_iload_n hX 3 rfl dL_law_279 rfl 280 rfl ?_
  refine zg_iconst hX dL_law_280 281 rfl ?_
  refine zg_iadd hX dL_law_281 282 rfl ?_
  refine zg_sld hX hL hLK (4 * j + 2) (by omega) (by omega) dL_law_282 283 rfl ?_
  refine zg_callP (As := [.int (zI (xs (4 * j + 1)).toInt), .int (zI (xs (4 * j + 2)).toInt)]) (rest := []) (wc := (cW cI qc f r)) (k0 := 0) (ci := 8) (C := RX9) (T := TX9) (N := 13) (idx := 40) hX (mW cI qm f2 r2) [0, 1, 2, 3, 4, 5, 6, 7, 8, 9, 10, 11, 12, 13, 14, 15, 16, 17, 18, 19, 20, 21, 22, 23, 24, 25, 26, 27, 28] [29, 30, 31, 32, 33, 34, 35, 36, 37, 38, 39, 40, 41, 42] (c_X9_about l D cI qc f r σ j ((xs (4 * j + 1)).toInt) ((xs (4 * j + 2)).toInt) hσ (by omega) hc (zI_rng _) (zI_rng _)) mw_413 mw_414 mw_415 mw_1 mw_416 sl_X9_about (by decide) (by decide) (by decide) (by decide) rfl rfl (lj_cm_C cI qc qm f f2 r r2) (lj_cm_F cI qc qm f f2 r r2) lj_n1.1 (lj_cm_R cI qc qm f f2 r r2) lj_n1.2.1 lj_d1 rfl (Nat.le_of_ble_eq_true rfl) dL_law_283 286 rfl (fun v W1 hp => ?_)
  obtain ⟨f3, r3, rfl, rfl, hc3⟩ := hp
  show G X 4 43 353 (mW cI qm f2 r2 ++ cW cI qc f3 r3) [(0, .ref b), (1, .ref (qc 0)), (2, .ref (qm 0)), (3, .int (zI (4 * (j : Int))))] 286 [.int (zI (o_about σ ((xs (4 * j + 1)).toInt) ((xs (4 * j + 2)).toInt)).2)]
  refine zg_aload_n hX 2 rfl dL_law_286 rfl 287 rfl ?_
  refine zg_aload_n hX 0 rfl dL_law_287 rfl 288 rfl ?_
  refine zg_iload_n hX 3 rfl dL_law_288 rfl 289 rfl ?_
  refine zg_iconst hX dL_law_289 290 rfl ?_
  refine zg_iadd hX dL_law_290 291 rfl ?_
  refine zg_sld hX hL hLK (4 * j + 1) (by omega) (by omega) dL_law_291 292 rfl ?_
  refine zg_aload_n hX 0 rfl dL_law_292 rfl 293 rfl ?_
  refine zg_iload_n hX 3 rfl dL_law_293 rfl 294 rfl ?_
  refine zg_iconst hX dL_law_294 295 rfl ?_
  refine zg_iadd hX dL_law_295 296 rfl ?_
  refine zg_sld hX hL hLK (4 * j + 2) (by omega) (by omega) dL_law_296 297 rfl ?_
  refine zg_callP (As := [.int (zI (xs (4 * j + 1)).toInt), .int (zI (xs (4 * j + 2)).toInt)]) (rest := [.int (zI (o_about σ ((xs (4 * j + 1)).toInt) ((xs (4 * j + 2)).toInt)).2)]) (wc := (mW cI qm f2 r2)) (k0 := 0) (ci := 9) (C := RX10) (T := TX10) (N := 33) (idx := 43) hX (cW cI qc f3 r3) [0, 1, 2, 3, 4, 5, 6, 7, 8, 9, 10, 11, 12, 13] [14, 15, 16, 17, 18, 19, 20, 21, 22, 23, 24, 25, 26, 27, 28, 29, 30, 31, 32, 33, 34, 35, 36, 37, 38, 39, 40, 41, 42] (c_X10_about l D cI qm f2 r2 σ j ((xs (4 * j + 1)).toInt) ((xs (4 * j + 2)).toInt) hσ (by omega) hm (zI_rng _) (zI_rng _)) mw_836 mw_837 mw_838 mw_10 mw_839 sl_X10_about (by decide) (by decide) (by decide) (by decide) rfl rfl (lj_mc_C cI qc qm f3 f2 r3 r2) (lj_mc_F cI qc qm f3 f2 r3 r2) lj_n1.2.2.1 (lj_mc_R cI qc qm f3 f2 r3 r2) lj_n1.2.2.2 lj_d2 rfl (Nat.le_of_ble_eq_true rfl) dL_law_297 300 rfl (fun v W1 hp => ?_)
  obtain ⟨f4, r4, rfl, rfl, hm4⟩ := hp
  show G X 4 43 353 (cW cI qc f3 r3 ++ mW cI qm f4 r4) [(0, .ref b), (1, .ref (qc 0)), (2, .ref (qm 0)), (3, .int (zI (4 * (j : Int))))] 300 [.int (zI (o_about σ ((xs (4 * j + 1)).toInt) ((xs (4 * j + 2)).toInt)).2), .int (zI (o_about σ ((xs (4 * j + 1)).toInt) ((xs (4 * j + 2)).toInt)).2)]
  refine zg_icsame hX dL_law_300 687 (by decide) ?_
  exact J687 _ f3 f4 r3 r4 (sOK_up hσ) hc3 hm4
set_option maxRecDepth 20000 in
theorem law_c7 {X : gT} {l : Launch} {D : va_G} {cI : ClassId} {b L : Nat} {xs : Nat → Int32} (hL : L ≤ 256) (hX : OKB X l D cI RL cL_law 4 100 600000 7302250) (hLK : LK X b L xs) (qc qm : Nat → Nat) (j : Nat) (σ : Sg) (f f2 : Nat → Int) (r r2 : Nat → Nat → Int) (hj : 4 * j + 4 ≤ L) (hσ : sOK σ j) (hc : CRel f r σ) (hm : MRel f2 r2 σ)
    (J687 : ∀ (σ1 : Sg) (f3 f4 : Nat → Int) (r3 r4 : Nat → Nat → Int), sOK σ1 (j + 1) → CRel f3 r3 σ1 → MRel f4 r4 σ1 → G X 4 43 353 (cW cI qc f3 r3 ++ mW cI qm f4 r4) [(0, .ref b), (1, .ref (qc 0)), (2, .ref (qm 0)), (3, .int (zI (4 * (j : Int))))] 687 []) :
    G X 4 43 353 (cW cI qc f r ++ mW cI qm f2 r2) [(0, .ref b), (1, .ref (qc 0)), (2, .ref (qm 0)), (3, .int (zI (4 * (j : Int))))] 305 [] := by
  refine zg_aload_n hX 1 rfl dL_law_305 rfl 306 rfl ?_
  refine zg_aload_n hX 0 rfl dL_law_306 rfl 307 rfl ?_
  refine zg_iload_n hX 3 rfl dL_law_307 rfl 308 rfl ?_
  refine zg_iconst hX dL_law_308 309 rfl ?_
  refine zg_iadd hX dL_law_309 310 rfl ?_
  refine zg_sld hX hL hLK (4 * j + 1) (by omega) (by omega) dL_law_310 311 rfl ?_
  refine zg_aload_n hX 0 rfl dL_law_311 rfl 312 rfl ?_
  refine zg_iload_n hX 3 rfl dL_law_312 rfl 313 rfl ?_
  refine zg_iconst hX dL_law_313 314 rfl ?_
  refine zg_iadd hX dL_law_314 315 rfl ?_
  refine zg_sld hX hL hLK (4 * j + 2) (by omega) (by omega) dL_law_315 316 rfl ?_
  refine zg_callP (As := [.int (zI (xs (4 * j + 1)).toInt), .int (zI (xs (4 * j + 2)).toInt)]) (rest := []) (wc := (cW cI qc f r)) (k0 := 0) (ci := 8) (C := RX9) (T := TX9) (N := 13) (idx := 44) hX (mW cI qm f2 r2) [0, 1, 2, 3, 4, 5, 6, 7, 8, 9, 10, 11, 12, 13, 14, 15, 16, 17, 18, 19, 20, 21, 22, 23, 24, 25, 26, 27, 28] [29, 30, 31, 32, 33, 34, 35, 36, 37, 38, 39, 40, 41, 42] (c_X9_as l D cI qc f r σ j ((xs (4 * j + 1)).toInt) ((xs (4 * j + 2)).toInt) hσ (by omega) hc (zI_rng _) (zI_rng _)) mw_432 mw_433 mw_434 mw_1 mw_435 sl_X9_as (by decide) (by decide) (by decide) (by decide) rfl rfl (lj_cm_C cI qc qm f f2 r r2) (lj_cm_F cI qc qm f f2 r r2) lj_n1.1 (lj_cm_R cI qc qm f f2 r r2) lj_n1.2.1 lj_d1 rfl (Nat.le_of_ble_eq_true rfl) dL_law_316 319 rfl (fun v W1 hp => ?_)
  obtain ⟨f3, r3, rfl, rfl, hc3⟩ := hp
  show G X 4 43 353 (mW cI qm f2 r2 ++ cW cI qc f3 r3) [(0, .ref b), (1, .ref (qc 0)), (2, .ref (qm 0)), (3, .int (zI (4 * (j : Int))))] 319 [.int (zI (o_as σ ((xs (4 * j + 1)).toInt) ((xs (4 * j + 2)).toInt)).2)]
  refine zg_aload_n hX 2 rfl dL_law_319 rfl 320 rfl ?_
  refine zg_aload_n hX 0 rfl dL_law_320 rfl 321 rfl ?_
  refine zg_iload_n hX 3 rfl dL_law_321 rfl 322 rfl ?_
  refine zg_iconst hX dL_law_322 323 rfl ?_
  refine zg_iadd hX dL_law_323 324 rfl ?_
  refine zg_sld hX hL hLK (4 * j + 1) (by omega) (by omega) dL_law_324 325 rfl ?_
  refine zg_aload_n hX 0 rfl dL_law_325 rfl 326 rfl ?_
  refine zg_iload_n hX 3 rfl dL_law_326 rfl 327 rfl ?_
  refine zg_iconst hX dL_law_327 328 rfl ?_
  refine zg_iadd hX dL_law_328 329 rfl ?_
  refine zg_sld hX hL hLK (4 * j + 2) (by omega) (by omega) dL_law_329 330 rfl ?_
  refine zg_callP (As := [.int (zI (xs (4 * j + 1)).toInt), .int (zI (xs (4 * j + 2)).toInt)]) (rest := [.int (zI (o_as σ ((xs (4 * j + 1)).toInt) ((xs (4 * j + 2)).toInt)).2)]) (wc := (mW cI qm f2 r2)) (k0 := 0) (ci := 9) (C := RX10) (T := TX10) (N := 33) (idx := 47) hX (cW cI qc f3 r3) [0, 1, 2, 3, 4, 5, 6, 7, 8, 9, 10, 11, 12, 13] [14, 15, 16, 17, 18, 19, 20, 21, 22, 23, 24, 25, 26, 27, 28, 29, 30, 31, 32, 33, 34, 35, 36, 37, 38, 39, 40, 41, 42] (c_X10_as l D cI qm f2 r2 σ j ((xs (4 * j + 1)).toInt) ((xs (4 * j + 2)).toInt) hσ (by omega) hm (zI_rng _) (zI_rng _)) mw_848 mw_849 mw_850 mw_10 mw_851 sl_X10_as (by decide) (by decide) (by decide) (by decide) rfl rfl (lj_mc_C cI qc qm f3 f2 r3 r2) (lj_mc_F cI qc qm f3 f2 r3 r2) lj_n1.2.2.1 (lj_mc_R cI qc qm f3 f2 r3 r2) lj_n1.2.2.2 lj_d2 rfl (Nat.le_of_ble_eq_true rfl) dL_law_330 333 rfl (fun v W1 hp => ?_)
  obtain ⟨f4, r4, rfl, rfl, hm4⟩ := hp
  show G X 4 43 353 (cW cI qc f3 r3 ++ mW cI qm f4 r4) [(0, .ref b), (1, .ref (qc 0)), (2, .ref (qm 0)), (3, .int (zI (4 * (j : Int))))] 333 [.int (zI (o_as σ ((xs (4 * j + 1)).toInt) ((xs (4 * j + 2)).toInt)).2), .int (zI (o_as σ ((xs (4 * j + 1)).toInt) ((xs (4 * j + 2)).toInt)).2)]
  refine zg_icsame hX dL_law_333 687 (by decide) ?_
  exact J687 _ f3 f4 r3 r4 (sOK_up hσ) hc3 hm4
set_option maxRecDepth 20000 in
theorem law_c8 {X : gT} {l : Launch} {D : va_G} {cI : ClassId} {b L : Nat} {xs : Nat → Int32} (hL : L ≤ 256) (hX : OKB X l D cI RL cL_law 4 100 600000 7302250) (hLK : LK X b L xs) (qc qm : Nat → Nat) (j : Nat) (σ : Sg) (f f2 : Nat → Int) (r r2 : Nat → Nat → Int) (hj : 4 * j + 4 ≤ L) (hσ : sOK σ j) (hc : CRel f r σ) (hm : MRel f2 r2 σ)
    (J687 : ∀ (σ1 : Sg) (f3 f4 : Nat → Int) (r3 r4 : Nat → Nat → Int), sOK σ1 (j + 1) → CRel f3 r3 σ1 → MRel f4 r4 σ1 → G X 4 43 353 (cW cI qc f3 r3 ++ mW cI qm f4 r4) [(0, .ref b), (1, .ref (qc 0)), (2, .ref (qm 0)), (3, .int (zI (4 * (j : Int))))] 687 []) :
    G X 4 43 353 (cW cI qc f r ++ mW cI qm f2 r2) [(0, .ref b), (1, .ref (qc 0)), (2, .ref (qm 0)), (3, .int (zI (4 * (j : Int))))] 338 [] := by
  refine zg_aload_n hX 1 rfl dL_law_338 rfl 339 rfl ?_
  refine zg_aload_n hX 0 rfl dL_law_339 rfl 340 rfl ?_
  refine zg_iload_n hX 3 rfl dL_law_340 rfl 341 rfl ?_
  refine zg_iconst hX dL_law_341 342 rfl ?_
  refine zg_iadd hX dL_law_342 343 rfl ?_
  refine zg_sld hX hL hLK (4 * j + 1) (by omega) (by omega) dL_law_343 344 rfl ?_
  refine zg_callP (As := [.int (zI (xs (4 * j + 1)).toInt)]) (rest := []) (wc := (cW cI qc f r)) (k0 := 0) (ci := 8) (C := RX9) (T := TX9) (N := 13) (idx := 48) hX (mW cI qm f2 r2) [0, 1, 2, 3, 4, 5, 6, 7, 8, 9, 10, 11, 12, 13, 14, 15, 16, 17, 18, 19, 20, 21, 22, 23, 24, 25, 26, 27, 28] [29, 30, 31, 32, 33, 34, 35, 36, 37, 38, 39, 40, 41, 42] (c_X9_coffee l D cI qc f r σ j ((xs (4 * j + 1)).toInt) hσ (by omega) hc (zI_rng _)) mw_439 mw_440 mw_441 mw_1 mw_442 sl_X9_coffee (by decide) (by decide) (by decide) (by decide) rfl rfl (lj_cm_C cI qc qm f f2 r r2) (lj_cm_F cI qc qm f f2 r r2) lj_n1.1 (lj_cm_R cI qc qm f f2 r r2) lj_n1.2.1 lj_d1 rfl (Nat.le_of_ble_eq_true rfl) dL_law_344 347 rfl (fun v W1 hp => ?_)
  obtain ⟨f3, r3, rfl, rfl, hc3⟩ := hp
  show G X 4 43 353 (mW cI qm f2 r2 ++ cW cI qc f3 r3) [(0, .ref b), (1, .ref (qc 0)), (2, .ref (qm 0)), (3, .int (zI (4 * (j : Int))))] 347 [.int (zI (o_coffee σ ((xs (4 * j + 1)).toInt)).2)]
  refine zg_aload_n hX 2 rfl dL_law_347 rfl 348 rfl ?_
  refine zg_aload_n hX 0 rfl dL_law_348 rfl 349 rfl ?_
  refine zg_iload_n hX 3 rfl dL_law_349 rfl 350 rfl ?_
  refine zg_iconst hX dL_law_350 351 rfl ?_
  refine zg_iadd hX dL_law_351 352 rfl ?_
  refine zg_sld hX hL hLK (4 * j + 1) (by omega) (by omega) dL_law_352 353 rfl ?_
  refine zg_callP (As := [.int (zI (xs (4 * j + 1)).toInt)]) (rest := [.int (zI (o_coffee σ ((xs (4 * j + 1)).toInt)).2)]) (wc := (mW cI qm f2 r2)) (k0 := 0) (ci := 9) (C := RX10) (T := TX10) (N := 33) (idx := 51) hX (cW cI qc f3 r3) [0, 1, 2, 3, 4, 5, 6, 7, 8, 9, 10, 11, 12, 13] [14, 15, 16, 17, 18, 19, 20, 21, 22, 23, 24, 25, 26, 27, 28, 29, 30, 31, 32, 33, 34, 35, 36, 37, 38, 39, 40, 41, 42] (c_X10_coffee l D cI qm f2 r2 σ j ((xs (4 * j + 1)).toInt) hσ (by omega) hm (zI_rng _)) mw_852 mw_853 mw_854 mw_10 mw_855 sl_X10_coffee (by decide) (by decide) (by decide) (by decide) rfl rfl (lj_mc_C cI qc qm f3 f2 r3 r2) (lj_mc_F cI qc qm f3 f2 r3 r2) lj_n1.2.2.1 (lj_mc_R cI qc qm f3 f2 r3 r2) lj_n1.2.2.2 lj_d2 rfl (Nat.le_of_ble_eq_true rfl) dL_law_353 356 rfl (fun v W1 hp => ?_)
  obtain ⟨f4, r4, rfl, rfl, hm4⟩ := hp
  show G X 4 43 353 (cW cI qc f3 r3 ++ mW cI qm f4 r4) [(0, .ref b), (1, .ref (qc 0)), (2, .ref (qm 0)), (3, .int (zI (4 * (j : Int))))] 356 [.int (zI (o_coffee σ ((xs (4 * j + 1)).toInt)).2), .int (zI (o_coffee σ ((xs (4 * j + 1)).toInt)).2)]
  refine zg_icsame hX dL_law_356 687 (by decide) ?_
  exact J687 _ f3 f4 r3 r4 (k_coffee hσ ((xs (4 * j + 1)).toInt)) hc3 hm4
set_option maxRecDepth 20000 in
theorem law_c9 {X : gT} {l : Launch} {D : va_G} {cI : ClassId} {b L : Nat} {xs : Nat → Int32} (hL : L ≤ 256) (hX : OKB X l D cI RL cL_law 4 100 600000 7302250) (hLK : LK X b L xs) (qc qm : Nat → Nat) (j : Nat) (σ : Sg) (f f2 : Nat → Int) (r r2 : Nat → Nat → Int) (hj : 4 * j + 4 ≤ L) (hσ : sOK σ j) (hc : CRel f r σ) (hm : MRel f2 r2 σ)
    (J687 : ∀ (σ1 : Sg) (f3 f4 : Nat → Int) (r3 r4 : Nat → Nat → Int), sOK σ1 (j + 1) → CRel f3 r3 σ1 → MRel f4 r4 σ1 → G X 4 43 353 (cW cI qc f3 r3 ++ mW cI qm f4 r4) [(0, .ref b), (1, .ref (qc 0)), (2, .ref (qm 0)), (3, .int (zI (4 * (j : Int))))] 687 []) :
    G X 4 43 353 (cW cI qc f r ++ mW cI qm f2 r2) [(0, .ref b), (1, .ref (qc 0)), (2, .ref (qm 0)), (3, .int (zI (4 * (j : Int))))] 361 [] := by
  refine zg_aload_n hX 1 rfl dL_law_361 rfl 362 rfl ?_
  refine zg_aload_n hX 0 rfl dL_law_362 rfl 363 rfl ?_
  refine zg_iload_n hX 3 rfl dL_law_363 rfl 364 rfl ?_
  refine zg_iconst hX dL_law_364 365 rfl ?_
  refine zg_iadd hX dL_law_365 366 rfl ?_
  refine zg_sld hX hL hLK (4 * j + 1) (by omega) (by omega) dL_law_366 367 rfl ?_
  refine zg_aload_n hX 0 rfl dL_law_367 rfl 368 rfl ?_
  refine zg_iload_n hX 3 rfl dL_law_368 rfl 369 rfl ?_
  refine zg_iconst hX dL_law_369 370 rfl ?_
  refine zg_iadd hX dL_law_370 371 rfl ?_
  refine zg_sld hX hL hLK (4 * j + 2) (by omega) (by omega) dL_law_371 372 rfl ?_
  refine zg_callP (As := [.int (zI (xs (4 * j + 1)).toInt), .int (zI (xs (4 * j + 2)).toInt)]) (rest := []) (wc := (cW cI qc f r)) (k0 := 0) (ci := 8) (C := RX9) (T := TX9) (N := 13) (idx := 52) hX (mW cI qm f2 r2) [0, 1, 2, 3, 4, 5, 6, 7, 8, 9, 10, 11, 12, 13, 14, 15, 16, 17, 18, 19, 20, 21, 22, 23, 24, 25, 26, 27, 28] [29, 30, 31, 32, 33, 34, 35, 36, 37, 38, 39, 40, 41, 42] (c_X9_tire l D cI qc f r σ j ((xs (4 * j + 1)).toInt) ((xs (4 * j + 2)).toInt) hσ (by omega) hc (zI_rng _) (zI_rng _)) mw_448 mw_449 mw_450 mw_1 mw_451 sl_X9_tire (by decide) (by decide) (by decide) (by decide) rfl rfl (lj_cm_C cI qc qm f f2 r r2) (lj_cm_F cI qc qm f f2 r r2) lj_n1.1 (lj_cm_R cI qc qm f f2 r r2) lj_n1.2.1 lj_d1 rfl (Nat.le_of_ble_eq_true rfl) dL_law_372 375 rfl (fun v W1 hp => ?_)
  obtain ⟨f3, r3, rfl, rfl, hc3⟩ := hp
  show G X 4 43 353 (mW cI qm f2 r2 ++ cW cI qc f3 r3) [(0, .ref b), (1, .ref (qc 0)), (2, .ref (qm 0)), (3, .int (zI (4 * (j : Int))))] 375 [.int (zI (o_tire σ ((xs (4 * j + 1)).toInt) ((xs (4 * j + 2)).toInt)).2)]
  refine zg_aload_n hX 2 rfl dL_law_375 rfl 376 rfl ?_
  refine zg_aload_n hX 0 rfl dL_law_376 rfl 377 rfl ?_
  refine zg_iload_n hX 3 rfl dL_law_377 rfl 378 rfl ?_
  refine zg_iconst hX dL_law_378 379 rfl ?_
  refine zg_iadd hX dL_law_379 380 rfl ?_
  refine zg_sld hX hL hLK (4 * j + 1) (by omega) (by omega) dL_law_380 381 rfl ?_
  refine zg_aload_n hX 0 rfl dL_law_381 rfl 382 rfl ?_
  refine zg_iload_n hX 3 rfl dL_law_382 rfl 383 rfl ?_
  refine zg_iconst hX dL_law_383 384 rfl ?_
  refine zg_iadd hX dL_law_384 385 rfl ?_
  refine zg_sld hX hL hLK (4 * j + 2) (by omega) (by omega) dL_law_385 386 rfl ?_
  refine zg_callP (As := [.int (zI (xs (4 * j + 1)).toInt), .int (zI (xs (4 * j + 2)).toInt)]) (rest := [.int (zI (o_tire σ ((xs (4 * j + 1)).toInt) ((xs (4 * j + 2)).toInt)).2)]) (wc := (mW cI qm f2 r2)) (k0 := 0) (ci := 9) (C := RX10) (T := TX10) (N := 33) (idx := 55) hX (cW cI qc f3 r3) [0, 1, 2, 3, 4, 5, 6, 7, 8, 9, 10, 11, 12, 13] [14, 15, 16, 17, 18, 19, 20, 21, 22, 23, 24, 25, 26, 27, 28, 29, 30, 31, 32, 33, 34, 35, 36, 37, 38, 39, 40, 41, 42] (c_X10_tire l D cI qm f2 r2 σ j ((xs (4 * j + 1)).toInt) ((xs (4 * j + 2)).toInt) hσ (by omega) hm (zI_rng _) (zI_rng _)) mw_864 mw_865 mw_866 mw_10 mw_867 sl_X10_tire (by decide) (by decide) (by decide) (by decide) rfl rfl (lj_mc_C cI qc qm f3 f2 r3 r2) (lj_mc_F cI qc qm f3 f2 r3 r2) lj_n1.2.2.1 (lj_mc_R cI qc qm f3 f2 r3 r2) lj_n1.2.2.2 lj_d2 rfl (Nat.le_of_ble_eq_true rfl) dL_law_386 389 rfl (fun v W1 hp => ?_)
  obtain ⟨f4, r4, rfl, rfl, hm4⟩ := hp
  show G X 4 43 353 (cW cI qc f3 r3 ++ mW cI qm f4 r4) [(0, .ref b), (1, .ref (qc 0)), (2, .ref (qm 0)), (3, .int (zI (4 * (j : Int))))] 389 [.int (zI (o_tire σ ((xs (4 * j + 1)).toInt) ((xs (4 * j + 2)).toInt)).2), .int (zI (o_tire σ ((xs (4 * j + 1)).toInt) ((xs (4 * j + 2)).toInt)).2)]
  refine zg_icsame hX dL_law_389 687 (by decide) ?_
  exact J687 _ f3 f4 r3 r4 (k_tire hσ ((xs (4 * j + 1)).toInt) ((xs (4 * j + 2)).toInt)) hc3 hm4
set_option maxRecDepth 20000 in
theorem law_c10 {X : gT} {l : Launch} {D : va_G} {cI : ClassId} {b L : Nat} {xs : Nat → Int32} (hL : L ≤ 256) (hX : OKB X l D cI RL cL_law 4 100 600000 7302250) (hLK : LK X b L xs) (qc qm : Nat → Nat) (j : Nat) (σ : Sg) (f f2 : Nat → Int) (r r2 : Nat → Nat → Int) (hj : 4 * j + 4 ≤ L) (hσ : sOK σ j) (hc : CRel f r σ) (hm : MRel f2 r2 σ)
    (J687 : ∀ (σ1 : Sg) (f3 f4 : Nat → Int) (r3 r4 : Nat → Nat → Int), sOK σ1 (j + 1) → CRel f3 r3 σ1 → MRel f4 r4 σ1 → G X 4 43 353 (cW cI qc f3 r3 ++ mW cI qm f4 r4) [(0, .ref b), (1, .ref (qc 0)), (2, .ref (qm 0)), (3, .int (zI (4 * (j : Int))))] 687 []) :
    G X 4 43 353 (cW cI qc f r ++ mW cI qm f2 r2) [(0, .ref b), (1, .ref (qc 0)), (2, .ref (qm 0)), (3, .int (zI (4 * (j : Int))))] 394 [] := by
  refine zg_aload_n hX 1 rfl dL_law_394 rfl 395 rfl ?_
  refine zg_callP (As := []) (rest := []) (wc := (cW cI qc f r)) (k0 := 0) (ci := 8) (C := RX9) (T := TX9) (N := 13) (idx := 56) hX (mW cI qm f2 r2) [0, 1, 2, 3, 4, 5, 6, 7, 8, 9, 10, 11, 12, 13, 14, 15, 16, 17, 18, 19, 20, 21, 22, 23, 24, 25, 26, 27, 28] [29, 30, 31, 32, 33, 34, 35, 36, 37, 38, 39, 40, 41, 42] (c_X9_play l D cI qc f r σ j hσ (by omega) hc) mw_452 mw_453 mw_454 mw_1 mw_455 sl_X9_play (by decide) (by decide) (by decide) (by decide) rfl rfl (lj_cm_C cI qc qm f f2 r r2) (lj_cm_F cI qc qm f f2 r r2) lj_n1.1 (lj_cm_R cI qc qm f f2 r r2) lj_n1.2.1 lj_d1 rfl (Nat.le_of_ble_eq_true rfl) dL_law_395 398 rfl (fun v W1 hp => ?_)
  obtain ⟨f3, r3, rfl, rfl, hc3⟩ := hp
  show G X 4 43 353 (mW cI qm f2 r2 ++ cW cI qc f3 r3) [(0, .ref b), (1, .ref (qc 0)), (2, .ref (qm 0)), (3, .int (zI (4 * (j : Int))))] 398 [.int (zI (o_play σ).2)]
  refine zg_aload_n hX 2 rfl dL_law_398 rfl 399 rfl ?_
  refine zg_callP (As := []) (rest := [.int (zI (o_play σ).2)]) (wc := (mW cI qm f2 r2)) (k0 := 0) (ci := 9) (C := RX10) (T := TX10) (N := 33) (idx := 59) hX (cW cI qc f3 r3) [0, 1, 2, 3, 4, 5, 6, 7, 8, 9, 10, 11, 12, 13] [14, 15, 16, 17, 18, 19, 20, 21, 22, 23, 24, 25, 26, 27, 28, 29, 30, 31, 32, 33, 34, 35, 36, 37, 38, 39, 40, 41, 42] (c_X10_play l D cI qm f2 r2 σ j hσ (by omega) hm) mw_868 mw_869 mw_870 mw_10 mw_871 sl_X10_play (by decide) (by decide) (by decide) (by decide) rfl rfl (lj_mc_C cI qc qm f3 f2 r3 r2) (lj_mc_F cI qc qm f3 f2 r3 r2) lj_n1.2.2.1 (lj_mc_R cI qc qm f3 f2 r3 r2) lj_n1.2.2.2 lj_d2 rfl (Nat.le_of_ble_eq_true rfl) dL_law_399 402 rfl (fun v W1 hp => ?_)
  obtain ⟨f4, r4, rfl, rfl, hm4⟩ := hp
  show G X 4 43 353 (cW cI qc f3 r3 ++ mW cI qm f4 r4) [(0, .ref b), (1, .ref (qc 0)), (2, .ref (qm 0)), (3, .int (zI (4 * (j : Int))))] 402 [.int (zI (o_play σ).2), .int (zI (o_play σ).2)]
  refine zg_icsame hX dL_law_402 687 (by decide) ?_
  exact J687 _ f3 f4 r3 r4 (k_play hσ) hc3 hm4
set_option maxRecDepth 20000 in
theorem law_c11 {X : gT} {l : Launch} {D : va_G} {cI : ClassId} {b L : Nat} {xs : Nat → Int32} (hL : L ≤ 256) (hX : OKB X l D cI RL cL_law 4 100 600000 7302250) (hLK : LK X b L xs) (qc qm : Nat → Nat) (j : Nat) (σ : Sg) (f f2 : Nat → Int) (r r2 : Nat → Nat → Int) (hj : 4 * j + 4 ≤ L) (hσ : sOK σ j) (hc : CRel f r σ) (hm : MRel f2 r2 σ)
    (J687 : ∀ (σ1 : Sg) (f3 f4 : Nat → Int) (r3 r4 : Nat → Nat → Int), sOK σ1 (j + 1) → CRel f3 r3 σ1 → MRel f4 r4 σ1 → G X 4 43 353 (cW cI qc f3 r3 ++ mW cI qm f4 r4) [(0, .ref b), (1, .ref (qc 0)), (2, .ref (qm 0)), (3, .int (zI (4 * (j : Int))))] 687 []) :
    G X 4 43 353 (cW cI qc f r ++ mW cI qm f2 r2) [(0, .ref b), (1, .ref (qc 0)), (2, .ref (qm 0)), (3, .int (zI (4 * (j : Int))))] 407 [] := by
  refine zg_aload_n hX 1 rfl dL_law_407 rfl 408 rfl ?_
  refine zg_callP (As := []) (rest := []) (wc := (cW cI qc f r)) (k0 := 0) (ci := 8) (C := RX9) (T := TX9) (N := 13) (idx := 60) hX (mW cI qm f2 r2) [0, 1, 2, 3, 4, 5, 6, 7, 8, 9, 10, 11, 12, 13, 14, 15, 16, 17, 18, 19, 20, 21, 22, 23, 24, 25, 26, 27, 28] [29, 30, 31, 32, 33, 34, 35, 36, 37, 38, 39, 40, 41, 42] (c_X9_again l D cI qc f r σ j hσ (by omega) hc) mw_458 mw_459 mw_460 mw_1 mw_461 sl_X9_again (by decide) (by decide) (by decide) (by decide) rfl rfl (lj_cm_C cI qc qm f f2 r r2) (lj_cm_F cI qc qm f f2 r r2) lj_n1.1 (lj_cm_R cI qc qm f f2 r r2) lj_n1.2.1 lj_d1 rfl (Nat.le_of_ble_eq_true rfl) dL_law_408 411 rfl (fun v W1 hp => ?_)
  obtain ⟨f3, r3, rfl, rfl, hc3⟩ := hp
  show G X 4 43 353 (mW cI qm f2 r2 ++ cW cI qc f3 r3) [(0, .ref b), (1, .ref (qc 0)), (2, .ref (qm 0)), (3, .int (zI (4 * (j : Int))))] 411 [.int (zI (o_again σ).2)]
  refine zg_aload_n hX 2 rfl dL_law_411 rfl 412 rfl ?_
  refine zg_callP (As := []) (rest := [.int (zI (o_again σ).2)]) (wc := (mW cI qm f2 r2)) (k0 := 0) (ci := 9) (C := RX10) (T := TX10) (N := 33) (idx := 63) hX (cW cI qc f3 r3) [0, 1, 2, 3, 4, 5, 6, 7, 8, 9, 10, 11, 12, 13] [14, 15, 16, 17, 18, 19, 20, 21, 22, 23, 24, 25, 26, 27, 28, 29, 30, 31, 32, 33, 34, 35, 36, 37, 38, 39, 40, 41, 42] (c_X10_again l D cI qm f2 r2 σ j hσ (by omega) hm) mw_872 mw_873 mw_874 mw_10 mw_875 sl_X10_again (by decide) (by decide) (by decide) (by decide) rfl rfl (lj_mc_C cI qc qm f3 f2 r3 r2) (lj_mc_F cI qc qm f3 f2 r3 r2) lj_n1.2.2.1 (lj_mc_R cI qc qm f3 f2 r3 r2) lj_n1.2.2.2 lj_d2 rfl (Nat.le_of_ble_eq_true rfl) dL_law_412 415 rfl (fun v W1 hp => ?_)
  obtain ⟨f4, r4, rfl, rfl, hm4⟩ := hp
  show G X 4 43 353 (cW cI qc f3 r3 ++ mW cI qm f4 r4) [(0, .ref b), (1, .ref (qc 0)), (2, .ref (qm 0)), (3, .int (zI (4 * (j : Int))))] 415 [.int (zI (o_again σ).2), .int (zI (o_again σ).2)]
  refine zg_icsame hX dL_law_415 687 (by decide) ?_
  exact J687 _ f3 f4 r3 r4 (k_again hσ) hc3 hm4
set_option maxRecDepth 20000 in
theorem law_c12 {X : gT} {l : Launch} {D : va_G} {cI : ClassId} {b L : Nat} {xs : Nat → Int32} (hL : L ≤ 256) (hX : OKB X l D cI RL cL_law 4 100 600000 7302250) (hLK : LK X b L xs) (qc qm : Nat → Nat) (j : Nat) (σ : Sg) (f f2 : Nat → Int) (r r2 : Nat → Nat → Int) (hj : 4 * j + 4 ≤ L) (hσ : sOK σ j) (hc : CRel f r σ) (hm : MRel f2 r2 σ)
    (J687 : ∀ (σ1 : Sg) (f3 f4 : Nat → Int) (r3 r4 : Nat → Nat → Int), sOK σ1 (j + 1) → CRel f3 r3 σ1 → MRel f4 r4 σ1 → G X 4 43 353 (cW cI qc f3 r3 ++ mW cI qm f4 r4) [(0, .ref b), (1, .ref (qc 0)), (2, .ref (qm 0)), (3, .int (zI (4 * (j : Int))))] 687 []) :
    G X 4 43 353 (cW cI qc f r ++ mW cI qm f2 r2) [(0, .ref b), (1, .ref (qc 0)), (2, .ref (qm 0)), (3, .int (zI (4 * (j : Int))))] 420 [] := by
  refine zg_aload_n hX 1 rfl dL_law_420 rfl 421 rfl ?_
  refine zg_aload_n hX 0 rfl dL_law_421 rfl 422 rfl ?_
  refine zg_iload_n hX 3 rfl dL_law_422 rfl 423 rfl ?_
  refine zg_iconst hX dL_law_423 424 rfl ?_
  refine zg_iadd hX dL_law_424 425 rfl ?_
  refine zg_sld hX hL hLK (4 * j + 1) (by omega) (by omega) dL_law_425 426 rfl ?_
  refine zg_callP (As := [.int (zI (xs (4 * j + 1)).toInt)]) (rest := []) (wc := (cW cI qc f r)) (k0 := 0) (ci := 8) (C := RX9) (T := TX9) (N := 13) (idx := 64) hX (mW cI qm f2 r2) [0, 1, 2, 3, 4, 5, 6, 7, 8, 9, 10, 11, 12, 13, 14, 15, 16, 17, 18, 19, 20, 21, 22, 23, 24, 25, 26, 27, 28] [29, 30, 31, 32, 33, 34, 35, 36, 37, 38, 39, 40, 41, 42] (c_X9_hearing l D cI qc f r σ j ((xs (4 * j + 1)).toInt) hσ (by omega) hc (zI_rng _)) mw_462 mw_463 mw_464 mw_1 mw_465 sl_X9_hearing (by decide) (by decide) (by decide) (by decide) rfl rfl (lj_cm_C cI qc qm f f2 r r2) (lj_cm_F cI qc qm f f2 r r2) lj_n1.1 (lj_cm_R cI qc qm f f2 r r2) lj_n1.2.1 lj_d1 rfl (Nat.le_of_ble_eq_true rfl) dL_law_426 429 rfl (fun v W1 hp => ?_)
  obtain ⟨f3, r3, rfl, rfl, hc3⟩ := hp
  show G X 4 43 353 (mW cI qm f2 r2 ++ cW cI qc f3 r3) [(0, .ref b), (1, .ref (qc 0)), (2, .ref (qm 0)), (3, .int (zI (4 * (j : Int))))] 429 [.int (zI (o_hearing σ ((xs (4 * j + 1)).toInt)).2)]
  refine zg_aload_n hX 2 rfl dL_law_429 rfl 430 rfl ?_
  refine zg_aload_n hX 0 rfl dL_law_430 rfl 431 rfl ?_
  refine zg_iload_n hX 3 rfl dL_law_431 rfl 432 rfl ?_
  refine zg_iconst hX dL_law_432 433 rfl ?_
  refine zg_iadd hX dL_law_433 434 rfl ?_
  refine zg_sld hX hL hLK (4 * j + 1) (by omega) (by omega) dL_law_434 435 rfl ?_
  refine zg_callP (As := [.int (zI (xs (4 * j + 1)).toInt)]) (rest := [.int (zI (o_hearing σ ((xs (4 * j + 1)).toInt)).2)]) (wc := (mW cI qm f2 r2)) (k0 := 0) (ci := 9) (C := RX10) (T := TX10) (N := 33) (idx := 67) hX (cW cI qc f3 r3) [0, 1, 2, 3, 4, 5, 6, 7, 8, 9, 10, 11, 12, 13] [14, 15, 16, 17, 18, 19, 20, 21, 22, 23, 24, 25, 26, 27, 28, 29, 30, 31, 32, 33, 34, 35, 36, 37, 38, 39, 40, 41, 42] (c_X10_hearing l D cI qm f2 r2 σ j ((xs (4 * j + 1)).toInt) hσ (by omega) hm (zI_rng _)) mw_876 mw_877 mw_878 mw_10 mw_879 sl_X10_hearing (by decide) (by decide) (by decide) (by decide) rfl rfl (lj_mc_C cI qc qm f3 f2 r3 r2) (lj_mc_F cI qc qm f3 f2 r3 r2) lj_n1.2.2.1 (lj_mc_R cI qc qm f3 f2 r3 r2) lj_n1.2.2.2 lj_d2 rfl (Nat.le_of_ble_eq_true rfl) dL_law_435 438 rfl (fun v W1 hp => ?_)
  obtain ⟨f4, r4, rfl, rfl, hm4⟩ := hp
  show G X 4 43 353 (cW cI qc f3 r3 ++ mW cI qm f4 r4) [(0, .ref b), (1, .ref (qc 0)), (2, .ref (qm 0)), (3, .int (zI (4 * (j : Int))))] 438 [.int (zI (o_hearing σ ((xs (4 * j + 1)).toInt)).2), .int (zI (o_hearing σ ((xs (4 * j + 1)).toInt)).2)]
  refine zg_icsame hX dL_law_438 687 (by decide) ?_
  exact J687 _ f3 f4 r3 r4 (sOK_up hσ) hc3 hm4
set_option maxRecDepth 20000 in
theorem law_c13 {X : gT} {l : Launch} {D : va_G} {cI : ClassId} {b L : Nat} {xs : Nat → Int32} (hL : L ≤ 256) (hX : OKB X l D cI RL cL_law 4 100 600000 7302250) (hLK : LK X b L xs) (qc qm : Nat → Nat) (j : Nat) (σ : Sg) (f f2 : Nat → Int) (r r2 : Nat → Nat → Int) (hj : 4 * j + 4 ≤ L) (hσ : sOK σ j) (hc : CRel f r σ) (hm : MRel f2 r2 σ)
    (J687 : ∀ (σ1 : Sg) (f3 f4 : Nat → Int) (r3 r4 : Nat → Nat → Int), sOK σ1 (j + 1) → CRel f3 r3 σ1 → MRel f4 r4 σ1 → G X 4 43 353 (cW cI qc f3 r3 ++ mW cI qm f4 r4) [(0, .ref b), (1, .ref (qc 0)), (2, .ref (qm 0)), (3, .int (zI (4 * (j : Int))))] 687 []) :
    G X 4 43 353 (cW cI qc f r ++ mW cI qm f2 r2) [(0, .ref b), (1, .ref (qc 0)), (2, .ref (qm 0)), (3, .int (zI (4 * (j : Int))))] 443 [] := by
  refine zg_aload_n hX 1 rfl dL_law_443 rfl 444 rfl ?_
  refine zg_aload_n hX 0 rfl dL_law_444 rfl 445 rfl ?_
  refine zg_iload_n hX 3 rfl dL_law_445 rfl 446 rfl ?_
  refine zg_iconst hX dL_law_446 447 rfl ?_
  refine zg_iadd hX dL_law_447 448 rfl ?_
  refine zg_sld hX hL hLK (4 * j + 1) (by omega) (by omega) dL_law_448 449 rfl ?_
  refine zg_callP (As := [.int (zI (xs (4 * j + 1)).toInt)]) (rest := []) (wc := (cW cI qc f r)) (k0 := 0) (ci := 8) (C := RX9) (T := TX9) (N := 13) (idx := 68) hX (mW cI qm f2 r2) [0, 1, 2, 3, 4, 5, 6, 7, 8, 9, 10, 11, 12, 13, 14, 15, 16, 17, 18, 19, 20, 21, 22, 23, 24, 25, 26, 27, 28] [29, 30, 31, 32, 33, 34, 35, 36, 37, 38, 39, 40, 41, 42] (c_X9_cups l D cI qc f r σ j ((xs (4 * j + 1)).toInt) hσ (by omega) hc (zI_rng _)) mw_472 mw_473 mw_474 mw_1 mw_475 sl_X9_cups (by decide) (by decide) (by decide) (by decide) rfl rfl (lj_cm_C cI qc qm f f2 r r2) (lj_cm_F cI qc qm f f2 r r2) lj_n1.1 (lj_cm_R cI qc qm f f2 r r2) lj_n1.2.1 lj_d1 rfl (Nat.le_of_ble_eq_true rfl) dL_law_449 452 rfl (fun v W1 hp => ?_)
  obtain ⟨f3, r3, rfl, rfl, hc3⟩ := hp
  show G X 4 43 353 (mW cI qm f2 r2 ++ cW cI qc f3 r3) [(0, .ref b), (1, .ref (qc 0)), (2, .ref (qm 0)), (3, .int (zI (4 * (j : Int))))] 452 [.int (zI (o_cups σ ((xs (4 * j + 1)).toInt)).2)]
  refine zg_aload_n hX 2 rfl dL_law_452 rfl 453 rfl ?_
  refine zg_aload_n hX 0 rfl dL_law_453 rfl 454 rfl ?_
  refine zg_iload_n hX 3 rfl dL_law_454 rfl 455 rfl ?_
  refine zg_iconst hX dL_law_455 456 rfl ?_
  refine zg_iadd hX dL_law_456 457 rfl ?_
  refine zg_sld hX hL hLK (4 * j + 1) (by omega) (by omega) dL_law_457 458 rfl ?_
  refine zg_callP (As := [.int (zI (xs (4 * j + 1)).toInt)]) (rest := [.int (zI (o_cups σ ((xs (4 * j + 1)).toInt)).2)]) (wc := (mW cI qm f2 r2)) (k0 := 0) (ci := 9) (C := RX10) (T := TX10) (N := 33) (idx := 71) hX (cW cI qc f3 r3) [0, 1, 2, 3, 4, 5, 6, 7, 8, 9, 10, 11, 12, 13] [14, 15, 16, 17, 18, 19, 20, 21, 22, 23, 24, 25, 26, 27, 28, 29, 30, 31, 32, 33, 34, 35, 36, 37, 38, 39, 40, 41, 42] (c_X10_cups l D cI qm f2 r2 σ j ((xs (4 * j + 1)).toInt) hσ (by omega) hm (zI_rng _)) mw_884 mw_885 mw_886 mw_10 mw_887 sl_X10_cups (by decide) (by decide) (by decide) (by decide) rfl rfl (lj_mc_C cI qc qm f3 f2 r3 r2) (lj_mc_F cI qc qm f3 f2 r3 r2) lj_n1.2.2.1 (lj_mc_R cI qc qm f3 f2 r3 r2) lj_n1.2.2.2 lj_d2 rfl (Nat.le_of_ble_eq_true rfl) dL_law_458 461 rfl (fun v W1 hp => ?_)
  obtain ⟨f4, r4, rfl, rfl, hm4⟩ := hp
  show G X 4 43 353 (cW cI qc f3 r3 ++ mW cI qm f4 r4) [(0, .ref b), (1, .ref (qc 0)), (2, .ref (qm 0)), (3, .int (zI (4 * (j : Int))))] 461 [.int (zI (o_cups σ ((xs (4 * j + 1)).toInt)).2), .int (zI (o_cups σ ((xs (4 * j + 1)).toInt)).2)]
  refine zg_icsame hX dL_law_461 687 (by decide) ?_
  exact J687 _ f3 f4 r3 r4 (k_cups hσ ((xs (4 * j + 1)).toInt)) hc3 hm4
set_option maxRecDepth 20000 in
theorem law_c14 {X : gT} {l : Launch} {D : va_G} {cI : ClassId} {b L : Nat} {xs : Nat → Int32} (hL : L ≤ 256) (hX : OKB X l D cI RL cL_law 4 100 600000 7302250) (hLK : LK X b L xs) (qc qm : Nat → Nat) (j : Nat) (σ : Sg) (f f2 : Nat → Int) (r r2 : Nat → Nat → Int) (hj : 4 * j + 4 ≤ L) (hσ : sOK σ j) (hc : CRel f r σ) (hm : MRel f2 r2 σ)
    (J687 : ∀ (σ1 : Sg) (f3 f4 : Nat → Int) (r3 r4 : Nat → Nat → Int), sOK σ1 (j + 1) → CRel f3 r3 σ1 → MRel f4 r4 σ1 → G X 4 43 353 (cW cI qc f3 r3 ++ mW cI qm f4 r4) [(0, .ref b), (1, .ref (qc 0)), (2, .ref (qm 0)), (3, .int (zI (4 * (j : Int))))] 687 []) :
    G X 4 43 353 (cW cI qc f r ++ mW cI qm f2 r2) [(0, .ref b), (1, .ref (qc 0)), (2, .ref (qm 0)), (3, .int (zI (4 * (j : Int))))] 466 [] := by
  refine zg_aload_n hX 1 rfl dL_law_466 rfl 467 rfl ?_
  refine zg_aload_n hX 0 rfl dL_law_467 rfl 468 rfl ?_
  refine zg_iload_n hX 3 rfl dL_law_468 rfl 469 rfl ?_
  refine zg_iconst hX dL_law_469 470 rfl ?_
  refine zg_iadd hX dL_law_470 471 rfl ?_
  refine zg_sld hX hL hLK (4 * j + 1) (by omega) (by omega) dL_law_471 472 rfl ?_
  refine zg_callP (As := [.int (zI (xs (4 * j + 1)).toInt)]) (rest := []) (wc := (cW cI qc f r)) (k0 := 0) (ci := 8) (C := RX9) (T := TX9) (N := 13) (idx := 72) hX (mW cI qm f2 r2) [0, 1, 2, 3, 4, 5, 6, 7, 8, 9, 10, 11, 12, 13, 14, 15, 16, 17, 18, 19, 20, 21, 22, 23, 24, 25, 26, 27, 28] [29, 30, 31, 32, 33, 34, 35, 36, 37, 38, 39, 40, 41, 42] (c_X9_order l D cI qc f r σ j ((xs (4 * j + 1)).toInt) hσ (by omega) hc (zI_rng _)) mw_508 mw_509 mw_510 mw_1 mw_511 sl_X9_order (by decide) (by decide) (by decide) (by decide) rfl rfl (lj_cm_C cI qc qm f f2 r r2) (lj_cm_F cI qc qm f f2 r r2) lj_n1.1 (lj_cm_R cI qc qm f f2 r r2) lj_n1.2.1 lj_d1 rfl (Nat.le_of_ble_eq_true rfl) dL_law_472 475 rfl (fun v W1 hp => ?_)
  obtain ⟨f3, r3, rfl, rfl, hc3⟩ := hp
  show G X 4 43 353 (mW cI qm f2 r2 ++ cW cI qc f3 r3) [(0, .ref b), (1, .ref (qc 0)), (2, .ref (qm 0)), (3, .int (zI (4 * (j : Int))))] 475 [.int (zI (o_order σ ((xs (4 * j + 1)).toInt)).2)]
  refine zg_aload_n hX 2 rfl dL_law_475 rfl 476 rfl ?_
  refine zg_aload_n hX 0 rfl dL_law_476 rfl 477 rfl ?_
  refine zg_iload_n hX 3 rfl dL_law_477 rfl 478 rfl ?_
  refine zg_iconst hX dL_law_478 479 rfl ?_
  refine zg_iadd hX dL_law_479 480 rfl ?_
  refine zg_sld hX hL hLK (4 * j + 1) (by omega) (by omega) dL_law_480 481 rfl ?_
  refine zg_callP (As := [.int (zI (xs (4 * j + 1)).toInt)]) (rest := [.int (zI (o_order σ ((xs (4 * j + 1)).toInt)).2)]) (wc := (mW cI qm f2 r2)) (k0 := 0) (ci := 9) (C := RX10) (T := TX10) (N := 33) (idx := 75) hX (cW cI qc f3 r3) [0, 1, 2, 3, 4, 5, 6, 7, 8, 9, 10, 11, 12, 13] [14, 15, 16, 17, 18, 19, 20, 21, 22, 23, 24, 25, 26, 27, 28, 29, 30, 31, 32, 33, 34, 35, 36, 37, 38, 39, 40, 41, 42] (c_X10_order l D cI qm f2 r2 σ j ((xs (4 * j + 1)).toInt) hσ (by omega) hm (zI_rng _)) mw_906 mw_907 mw_908 mw_10 mw_909 sl_X10_order (by decide) (by decide) (by decide) (by decide) rfl rfl (lj_mc_C cI qc qm f3 f2 r3 r2) (lj_mc_F cI qc qm f3 f2 r3 r2) lj_n1.2.2.1 (lj_mc_R cI qc qm f3 f2 r3 r2) lj_n1.2.2.2 lj_d2 rfl (Nat.le_of_ble_eq_true rfl) dL_law_481 484 rfl (fun v W1 hp => ?_)
  obtain ⟨f4, r4, rfl, rfl, hm4⟩ := hp
  show G X 4 43 353 (cW cI qc f3 r3 ++ mW cI qm f4 r4) [(0, .ref b), (1, .ref (qc 0)), (2, .ref (qm 0)), (3, .int (zI (4 * (j : Int))))] 484 [.int (zI (o_order σ ((xs (4 * j + 1)).toInt)).2), .int (zI (o_order σ ((xs (4 * j + 1)).toInt)).2)]
  refine zg_icsame hX dL_law_484 687 (by decide) ?_
  exact J687 _ f3 f4 r3 r4 (k_order hσ ((xs (4 * j + 1)).toInt)) hc3 hm4
set_option maxRecDepth 20000 in
theorem law_c15 {X : gT} {l : Launch} {D : va_G} {cI : ClassId} {b L : Nat} {xs : Nat → Int32} (hL : L ≤ 256) (hX : OKB X l D cI RL cL_law 4 100 600000 7302250) (hLK : LK X b L xs) (qc qm : Nat → Nat) (j : Nat) (σ : Sg) (f f2 : Nat → Int) (r r2 : Nat → Nat → Int) (hj : 4 * j + 4 ≤ L) (hσ : sOK σ j) (hc : CRel f r σ) (hm : MRel f2 r2 σ)
    (J687 : ∀ (σ1 : Sg) (f3 f4 : Nat → Int) (r3 r4 : Nat → Nat → Int), sOK σ1 (j + 1) → CRel f3 r3 σ1 → MRel f4 r4 σ1 → G X 4 43 353 (cW cI qc f3 r3 ++ mW cI qm f4 r4) [(0, .ref b), (1, .ref (qc 0)), (2, .ref (qm 0)), (3, .int (zI (4 * (j : Int))))] 687 []) :
    G X 4 43 353 (cW cI qc f r ++ mW cI qm f2 r2) [(0, .ref b), (1, .ref (qc 0)), (2, .ref (qm 0)), (3, .int (zI (4 * (j : Int))))] 489 [] := by
  refine zg_aload_n hX 1 rfl dL_law_489 rfl 490 rfl ?_
  refine zg_aload_n hX 0 rfl dL_law_490 rfl 491 rfl ?_
  refine zg_iload_n hX 3 rfl dL_law_491 rfl 492 rfl ?_
  refine zg_iconst hX dL_law_492 493 rfl ?_
  refine zg_iadd hX dL_law_493 494 rfl ?_
  refine zg_sld hX hL hLK (4 * j + 1) (by omega) (by omega) dL_law_494 495 rfl ?_
  refine zg_aload_n hX 0 rfl dL_law_495 rfl 496 rfl ?_
  refine zg_iload_n hX 3 rfl dL_law_496 rfl 497 rfl ?_
  refine zg_iconst hX dL_law_497 498 rfl ?_
  refine zg_iadd hX dL_law_498 499 rfl ?_
  refine zg_sld hX hL hLK (4 * j + 2) (by omega) (by omega) dL_law_499 500 rfl ?_
  refine zg_callP (As := [.int (zI (xs (4 * j + 1)).toInt), .int (zI (xs (4 * j + 2)).toInt)]) (rest := []) (wc := (cW cI qc f r)) (k0 := 0) (ci := 8) (C := RX9) (T := TX9) (N := 13) (idx := 76) hX (mW cI qm f2 r2) [0, 1, 2, 3, 4, 5, 6, 7, 8, 9, 10, 11, 12, 13, 14, 15, 16, 17, 18, 19, 20, 21, 22, 23, 24, 25, 26, 27, 28] [29, 30, 31, 32, 33, 34, 35, 36, 37, 38, 39, 40, 41, 42] (c_X9_tell l D cI qc f r σ j ((xs (4 * j + 1)).toInt) ((xs (4 * j + 2)).toInt) hσ (by omega) hc (zI_rng _) (zI_rng _)) mw_529 mw_530 mw_531 mw_1 mw_532 sl_X9_tell (by decide) (by decide) (by decide) (by decide) rfl rfl (lj_cm_C cI qc qm f f2 r r2) (lj_cm_F cI qc qm f f2 r r2) lj_n1.1 (lj_cm_R cI qc qm f f2 r r2) lj_n1.2.1 lj_d1 rfl (Nat.le_of_ble_eq_true rfl) dL_law_500 503 rfl (fun v W1 hp => ?_)
  obtain ⟨f3, r3, rfl, rfl, hc3⟩ := hp
  show G X 4 43 353 (mW cI qm f2 r2 ++ cW cI qc f3 r3) [(0, .ref b), (1, .ref (qc 0)), (2, .ref (qm 0)), (3, .int (zI (4 * (j : Int))))] 503 [.int (zI (o_tell σ ((xs (4 * j + 1)).toInt) ((xs (4 * j + 2)).toInt)).2)]
  refine zg_aload_n hX 2 rfl dL_law_503 rfl 504 rfl ?_
  refine zg_aload_n hX 0 rfl dL_law_504 rfl 505 rfl ?_
  refine zg_iload_n hX 3 rfl dL_law_505 rfl 506 rfl ?_
  refine zg_iconst hX dL_law_506 507 rfl ?_
  refine zg_iadd hX dL_law_507 508 rfl ?_
  refine zg_sld hX hL hLK (4 * j + 1) (by omega) (by omega) dL_law_508 509 rfl ?_
  refine zg_aload_n hX 0 rfl dL_law_509 rfl 510 rfl ?_
  refine zg_iload_n hX 3 rfl dL_law_510 rfl 511 rfl ?_
  refine zg_iconst hX dL_law_511 512 rfl ?_
  refine zg_iadd hX dL_law_512 513 rfl ?_
  refine zg_sld hX hL hLK (4 * j + 2) (by omega) (by omega) dL_law_513 514 rfl ?_
  refine zg_callP (As := [.int (zI (xs (4 * j + 1)).toInt), .int (zI (xs (4 * j + 2)).toInt)]) (rest := [.int (zI (o_tell σ ((xs (4 * j + 1)).toInt) ((xs (4 * j + 2)).toInt)).2)]) (wc := (mW cI qm f2 r2)) (k0 := 0) (ci := 9) (C := RX10) (T := TX10) (N := 33) (idx := 79) hX (cW cI qc f3 r3) [0, 1, 2, 3, 4, 5, 6, 7, 8, 9, 10, 11, 12, 13] [14, 15, 16, 17, 18, 19, 20, 21, 22, 23, 24, 25, 26, 27, 28, 29, 30, 31, 32, 33, 34, 35, 36, 37, 38, 39, 40, 41, 42] (c_X10_tell l D cI qm f2 r2 σ j ((xs (4 * j + 1)).toInt) ((xs (4 * j + 2)).toInt) hσ (by omega) hm (zI_rng _) (zI_rng _)) mw_914 mw_915 mw_916 mw_10 mw_917 sl_X10_tell (by decide) (by decide) (by decide) (by decide) rfl rfl (lj_mc_C cI qc qm f3 f2 r3 r2) (lj_mc_F cI qc qm f3 f2 r3 r2) lj_n1.2.2.1 (lj_mc_R cI qc qm f3 f2 r3 r2) lj_n1.2.2.2 lj_d2 rfl (Nat.le_of_ble_eq_true rfl) dL_law_514 517 rfl (fun v W1 hp => ?_)
  obtain ⟨f4, r4, rfl, rfl, hm4⟩ := hp
  show G X 4 43 353 (cW cI qc f3 r3 ++ mW cI qm f4 r4) [(0, .ref b), (1, .ref (qc 0)), (2, .ref (qm 0)), (3, .int (zI (4 * (j : Int))))] 517 [.int (zI (o_tell σ ((xs (4 * j + 1)).toInt) ((xs (4 * j + 2)).toInt)).2), .int (zI (o_tell σ ((xs (4 * j + 1)).toInt) ((xs (4 * j + 2)).toInt)).2)]
  refine zg_icsame hX dL_law_517 687 (by decide) ?_
  exact J687 _ f3 f4 r3 r4 (k_tell hσ ((xs (4 * j + 1)).toInt) ((xs (4 * j + 2)).toInt)) hc3 hm4
set_option maxRecDepth 20000 in
theorem law_c16 {X : gT} {l : Launch} {D : va_G} {cI : ClassId} {b L : Nat} {xs : Nat → Int32} (hL : L ≤ 256) (hX : OKB X l D cI RL cL_law 4 100 600000 7302250) (hLK : LK X b L xs) (qc qm : Nat → Nat) (j : Nat) (σ : Sg) (f f2 : Nat → Int) (r r2 : Nat → Nat → Int) (hj : 4 * j + 4 ≤ L) (hσ : sOK σ j) (hc : CRel f r σ) (hm : MRel f2 r2 σ)
    (J687 : ∀ (σ1 : Sg) (f3 f4 : Nat → Int) (r3 r4 : Nat → Nat → Int), sOK σ1 (j + 1) → CRel f3 r3 σ1 → MRel f4 r4 σ1 → G X 4 43 353 (cW cI qc f3 r3 ++ mW cI qm f4 r4) [(0, .ref b), (1, .ref (qc 0)), (2, .ref (qm 0)), (3, .int (zI (4 * (j : Int))))] 687 []) :
    G X 4 43 353 (cW cI qc f r ++ mW cI qm f2 r2) [(0, .ref b), (1, .ref (qc 0)), (2, .ref (qm 0)), (3, .int (zI (4 * (j : Int))))] 522 [] := by
  refine zg_aload_n hX 1 rfl dL_law_522 rfl 523 rfl ?_
  refine zg_callP (As := []) (rest := []) (wc := (cW cI qc f r)) (k0 := 0) (ci := 8) (C := RX9) (T := TX9) (N := 13) (idx := 80) hX (mW cI qm f2 r2) [0, 1, 2, 3, 4, 5, 6, 7, 8, 9, 10, 11, 12, 13, 14, 15, 16, 17, 18, 19, 20, 21, 22, 23, 24, 25, 26, 27, 28] [29, 30, 31, 32, 33, 34, 35, 36, 37, 38, 39, 40, 41, 42] (c_X9_forget l D cI qc f r σ j hσ (by omega) hc) mw_537 mw_538 mw_539 mw_1 mw_540 sl_X9_forget (by decide) (by decide) (by decide) (by decide) rfl rfl (lj_cm_C cI qc qm f f2 r r2) (lj_cm_F cI qc qm f f2 r r2) lj_n1.1 (lj_cm_R cI qc qm f f2 r r2) lj_n1.2.1 lj_d1 rfl (Nat.le_of_ble_eq_true rfl) dL_law_523 526 rfl (fun v W1 hp => ?_)
  obtain ⟨f3, r3, rfl, rfl, hc3⟩ := hp
  show G X 4 43 353 (mW cI qm f2 r2 ++ cW cI qc f3 r3) [(0, .ref b), (1, .ref (qc 0)), (2, .ref (qm 0)), (3, .int (zI (4 * (j : Int))))] 526 [.int (zI (o_forget σ).2)]
  refine zg_aload_n hX 2 rfl dL_law_526 rfl 527 rfl ?_
  refine zg_callP (As := []) (rest := [.int (zI (o_forget σ).2)]) (wc := (mW cI qm f2 r2)) (k0 := 0) (ci := 9) (C := RX10) (T := TX10) (N := 33) (idx := 83) hX (cW cI qc f3 r3) [0, 1, 2, 3, 4, 5, 6, 7, 8, 9, 10, 11, 12, 13] [14, 15, 16, 17, 18, 19, 20, 21, 22, 23, 24, 25, 26, 27, 28, 29, 30, 31, 32, 33, 34, 35, 36, 37, 38, 39, 40, 41, 42] (c_X10_forget l D cI qm f2 r2 σ j hσ (by omega) hm) mw_918 mw_919 mw_920 mw_10 mw_921 sl_X10_forget (by decide) (by decide) (by decide) (by decide) rfl rfl (lj_mc_C cI qc qm f3 f2 r3 r2) (lj_mc_F cI qc qm f3 f2 r3 r2) lj_n1.2.2.1 (lj_mc_R cI qc qm f3 f2 r3 r2) lj_n1.2.2.2 lj_d2 rfl (Nat.le_of_ble_eq_true rfl) dL_law_527 530 rfl (fun v W1 hp => ?_)
  obtain ⟨f4, r4, rfl, rfl, hm4⟩ := hp
  show G X 4 43 353 (cW cI qc f3 r3 ++ mW cI qm f4 r4) [(0, .ref b), (1, .ref (qc 0)), (2, .ref (qm 0)), (3, .int (zI (4 * (j : Int))))] 530 [.int (zI (o_forget σ).2), .int (zI (o_forget σ).2)]
  refine zg_icsame hX dL_law_530 687 (by decide) ?_
  exact J687 _ f3 f4 r3 r4 (k_forget hσ) hc3 hm4
set_option maxRecDepth 20000 in
theorem law_c17 {X : gT} {l : Launch} {D : va_G} {cI : ClassId} {b L : Nat} {xs : Nat → Int32} (hL : L ≤ 256) (hX : OKB X l D cI RL cL_law 4 100 600000 7302250) (hLK : LK X b L xs) (qc qm : Nat → Nat) (j : Nat) (σ : Sg) (f f2 : Nat → Int) (r r2 : Nat → Nat → Int) (hj : 4 * j + 4 ≤ L) (hσ : sOK σ j) (hc : CRel f r σ) (hm : MRel f2 r2 σ)
    (J687 : ∀ (σ1 : Sg) (f3 f4 : Nat → Int) (r3 r4 : Nat → Nat → Int), sOK σ1 (j + 1) → CRel f3 r3 σ1 → MRel f4 r4 σ1 → G X 4 43 353 (cW cI qc f3 r3 ++ mW cI qm f4 r4) [(0, .ref b), (1, .ref (qc 0)), (2, .ref (qm 0)), (3, .int (zI (4 * (j : Int))))] 687 []) :
    G X 4 43 353 (cW cI qc f r ++ mW cI qm f2 r2) [(0, .ref b), (1, .ref (qc 0)), (2, .ref (qm 0)), (3, .int (zI (4 * (j : Int))))] 535 [] := by
  refine zg_aload_n hX 1 rfl dL_law_535 rfl 536 rfl ?_
  refine zg_aload_n hX 0 rfl dL_law_536 rfl 537 rfl ?_
  refine zg_iload_n hX 3 rfl dL_law_537 rfl 538 rfl ?_
  refine zg_iconst hX dL_law_538 539 rfl ?_
  refine zg_iadd hX dL_law_539 540 rfl ?_
  refine zg_sld hX hL hLK (4 * j + 1) (by omega) (by omega) dL_law_540 541 rfl ?_
  refine zg_callP (As := [.int (zI (xs (4 * j + 1)).toInt)]) (rest := []) (wc := (cW cI qc f r)) (k0 := 0) (ci := 8) (C := RX9) (T := TX9) (N := 13) (idx := 84) hX (mW cI qm f2 r2) [0, 1, 2, 3, 4, 5, 6, 7, 8, 9, 10, 11, 12, 13, 14, 15, 16, 17, 18, 19, 20, 21, 22, 23, 24, 25, 26, 27, 28] [29, 30, 31, 32, 33, 34, 35, 36, 37, 38, 39, 40, 41, 42] (c_X9_guess l D cI qc f r σ j ((xs (4 * j + 1)).toInt) hσ (by omega) hc (zI_rng _)) mw_541 mw_542 mw_543 mw_1 mw_544 sl_X9_guess (by decide) (by decide) (by decide) (by decide) rfl rfl (lj_cm_C cI qc qm f f2 r r2) (lj_cm_F cI qc qm f f2 r r2) lj_n1.1 (lj_cm_R cI qc qm f f2 r r2) lj_n1.2.1 lj_d1 rfl (Nat.le_of_ble_eq_true rfl) dL_law_541 544 rfl (fun v W1 hp => ?_)
  obtain ⟨f3, r3, rfl, rfl, hc3⟩ := hp
  show G X 4 43 353 (mW cI qm f2 r2 ++ cW cI qc f3 r3) [(0, .ref b), (1, .ref (qc 0)), (2, .ref (qm 0)), (3, .int (zI (4 * (j : Int))))] 544 [.int (zI (o_guess σ ((xs (4 * j + 1)).toInt)).2)]
  refine zg_aload_n hX 2 rfl dL_law_544 rfl 545 rfl ?_
  refine zg_aload_n hX 0 rfl dL_law_545 rfl 546 rfl ?_
  refine zg_iload_n hX 3 rfl dL_law_546 rfl 547 rfl ?_
  refine zg_iconst hX dL_law_547 548 rfl ?_
  refine zg_iadd hX dL_law_548 549 rfl ?_
  refine zg_sld hX hL hLK (4 * j + 1) (by omega) (by omega) dL_law_549 550 rfl ?_
  refine zg_callP (As := [.int (zI (xs (4 * j + 1)).toInt)]) (rest := [.int (zI (o_guess σ ((xs (4 * j + 1)).toInt)).2)]) (wc := (mW cI qm f2 r2)) (k0 := 0) (ci := 9) (C := RX10) (T := TX10) (N := 33) (idx := 87) hX (cW cI qc f3 r3) [0, 1, 2, 3, 4, 5, 6, 7, 8, 9, 10, 11, 12, 13] [14, 15, 16, 17, 18, 19, 20, 21, 22, 23, 24, 25, 26, 27, 28, 29, 30, 31, 32, 33, 34, 35, 36, 37, 38, 39, 40, 41, 42] (c_X10_guess l D cI qm f2 r2 σ j ((xs (4 * j + 1)).toInt) hσ (by omega) hm (zI_rng _)) mw_922 mw_923 mw_924 mw_10 mw_925 sl_X10_guess (by decide) (by decide) (by decide) (by decide) rfl rfl (lj_mc_C cI qc qm f3 f2 r3 r2) (lj_mc_F cI qc qm f3 f2 r3 r2) lj_n1.2.2.1 (lj_mc_R cI qc qm f3 f2 r3 r2) lj_n1.2.2.2 lj_d2 rfl (Nat.le_of_ble_eq_true rfl) dL_law_550 553 rfl (fun v W1 hp => ?_)
  obtain ⟨f4, r4, rfl, rfl, hm4⟩ := hp
  show G X 4 43 353 (cW cI qc f3 r3 ++ mW cI qm f4 r4) [(0, .ref b), (1, .ref (qc 0)), (2, .ref (qm 0)), (3, .int (zI (4 * (j : Int))))] 553 [.int (zI (o_guess σ ((xs (4 * j + 1)).toInt)).2), .int (zI (o_guess σ ((xs (4 * j + 1)).toInt)).2)]
  refine zg_icsame hX dL_law_553 687 (by decide) ?_
  exact J687 _ f3 f4 r3 r4 (sOK_up hσ) hc3 hm4
set_option maxRecDepth 20000 in
theorem law_c18 {X : gT} {l : Launch} {D : va_G} {cI : ClassId} {b L : Nat} {xs : Nat → Int32} (hL : L ≤ 256) (hX : OKB X l D cI RL cL_law 4 100 600000 7302250) (hLK : LK X b L xs) (qc qm : Nat → Nat) (j : Nat) (σ : Sg) (f f2 : Nat → Int) (r r2 : Nat → Nat → Int) (hj : 4 * j + 4 ≤ L) (hσ : sOK σ j) (hc : CRel f r σ) (hm : MRel f2 r2 σ)
    (J687 : ∀ (σ1 : Sg) (f3 f4 : Nat → Int) (r3 r4 : Nat → Nat → Int), sOK σ1 (j + 1) → CRel f3 r3 σ1 → MRel f4 r4 σ1 → G X 4 43 353 (cW cI qc f3 r3 ++ mW cI qm f4 r4) [(0, .ref b), (1, .ref (qc 0)), (2, .ref (qm 0)), (3, .int (zI (4 * (j : Int))))] 687 []) :
    G X 4 43 353 (cW cI qc f r ++ mW cI qm f2 r2) [(0, .ref b), (1, .ref (qc 0)), (2, .ref (qm 0)), (3, .int (zI (4 * (j : Int))))] 558 [] := by
  refine zg_aload_n hX 1 rfl dL_law_558 rfl 559 rfl ?_
  refine zg_aload_n hX 0 rfl dL_law_559 rfl 560 rfl ?_
  refine zg_iload_n hX 3 rfl dL_law_560 rfl 561 rfl ?_
  refine zg_iconst hX dL_law_561 562 rfl ?_
  refine zg_iadd hX dL_law_562 563 rfl ?_
  refine zg_sld hX hL hLK (4 * j + 1) (by omega) (by omega) dL_law_563 564 rfl ?_
  refine zg_callP (As := [.int (zI (xs (4 * j + 1)).toInt)]) (rest := []) (wc := (cW cI qc f r)) (k0 := 0) (ci := 8) (C := RX9) (T := TX9) (N := 13) (idx := 88) hX (mW cI qm f2 r2) [0, 1, 2, 3, 4, 5, 6, 7, 8, 9, 10, 11, 12, 13, 14, 15, 16, 17, 18, 19, 20, 21, 22, 23, 24, 25, 26, 27, 28] [29, 30, 31, 32, 33, 34, 35, 36, 37, 38, 39, 40, 41, 42] (c_X9_listen l D cI qc f r σ j ((xs (4 * j + 1)).toInt) hσ (by omega) hc (zI_rng _)) mw_556 mw_557 mw_558 mw_1 mw_559 sl_X9_listen (by decide) (by decide) (by decide) (by decide) rfl rfl (lj_cm_C cI qc qm f f2 r r2) (lj_cm_F cI qc qm f f2 r r2) lj_n1.1 (lj_cm_R cI qc qm f f2 r r2) lj_n1.2.1 lj_d1 rfl (Nat.le_of_ble_eq_true rfl) dL_law_564 567 rfl (fun v W1 hp => ?_)
  obtain ⟨f3, r3, rfl, rfl, hc3⟩ := hp
  show G X 4 43 353 (mW cI qm f2 r2 ++ cW cI qc f3 r3) [(0, .ref b), (1, .ref (qc 0)), (2, .ref (qm 0)), (3, .int (zI (4 * (j : Int))))] 567 [.int (zI (o_listen σ ((xs (4 * j + 1)).toInt)).2)]
  refine zg_aload_n hX 2 rfl dL_law_567 rfl 568 rfl ?_
  refine zg_aload_n hX 0 rfl dL_law_568 rfl 569 rfl ?_
  refine zg_iload_n hX 3 rfl dL_law_569 rfl 570 rfl ?_
  refine zg_iconst hX dL_law_570 571 rfl ?_
  refine zg_iadd hX dL_law_571 572 rfl ?_
  refine zg_sld hX hL hLK (4 * j + 1) (by omega) (by omega) dL_law_572 573 rfl ?_
  refine zg_callP (As := [.int (zI (xs (4 * j + 1)).toInt)]) (rest := [.int (zI (o_listen σ ((xs (4 * j + 1)).toInt)).2)]) (wc := (mW cI qm f2 r2)) (k0 := 0) (ci := 9) (C := RX10) (T := TX10) (N := 33) (idx := 91) hX (cW cI qc f3 r3) [0, 1, 2, 3, 4, 5, 6, 7, 8, 9, 10, 11, 12, 13] [14, 15, 16, 17, 18, 19, 20, 21, 22, 23, 24, 25, 26, 27, 28, 29, 30, 31, 32, 33, 34, 35, 36, 37, 38, 39, 40, 41, 42] (c_X10_listen l D cI qm f2 r2 σ j ((xs (4 * j + 1)).toInt) hσ (by omega) hm (zI_rng _)) mw_934 mw_935 mw_936 mw_10 mw_937 sl_X10_listen (by decide) (by decide) (by decide) (by decide) rfl rfl (lj_mc_C cI qc qm f3 f2 r3 r2) (lj_mc_F cI qc qm f3 f2 r3 r2) lj_n1.2.2.1 (lj_mc_R cI qc qm f3 f2 r3 r2) lj_n1.2.2.2 lj_d2 rfl (Nat.le_of_ble_eq_true rfl) dL_law_573 576 rfl (fun v W1 hp => ?_)
  obtain ⟨f4, r4, rfl, rfl, hm4⟩ := hp
  show G X 4 43 353 (cW cI qc f3 r3 ++ mW cI qm f4 r4) [(0, .ref b), (1, .ref (qc 0)), (2, .ref (qm 0)), (3, .int (zI (4 * (j : Int))))] 576 [.int (zI (o_listen σ ((xs (4 * j + 1)).toInt)).2), .int (zI (o_listen σ ((xs (4 * j + 1)).toInt)).2)]
  refine zg_icsame hX dL_law_576 687 (by decide) ?_
  exact J687 _ f3 f4 r3 r4 (sOK_up hσ) hc3 hm4
set_option maxRecDepth 20000 in
theorem law_c19 {X : gT} {l : Launch} {D : va_G} {cI : ClassId} {b L : Nat} {xs : Nat → Int32} (hL : L ≤ 256) (hX : OKB X l D cI RL cL_law 4 100 600000 7302250) (hLK : LK X b L xs) (qc qm : Nat → Nat) (j : Nat) (σ : Sg) (f f2 : Nat → Int) (r r2 : Nat → Nat → Int) (hj : 4 * j + 4 ≤ L) (hσ : sOK σ j) (hc : CRel f r σ) (hm : MRel f2 r2 σ)
    (J687 : ∀ (σ1 : Sg) (f3 f4 : Nat → Int) (r3 r4 : Nat → Nat → Int), sOK σ1 (j + 1) → CRel f3 r3 σ1 → MRel f4 r4 σ1 → G X 4 43 353 (cW cI qc f3 r3 ++ mW cI qm f4 r4) [(0, .ref b), (1, .ref (qc 0)), (2, .ref (qm 0)), (3, .int (zI (4 * (j : Int))))] 687 []) :
    G X 4 43 353 (cW cI qc f r ++ mW cI qm f2 r2) [(0, .ref b), (1, .ref (qc 0)), (2, .ref (qm 0)), (3, .int (zI (4 * (j : Int))))] 581 [] := by
  refine zg_aload_n hX 1 rfl dL_law_581 rfl 582 rfl ?_
  refine zg_aload_n hX 0 rfl dL_law_582 rfl 583 rfl ?_
  refine zg_iload_n hX 3 rfl dL_law_583 rfl 584 rfl ?_
  refine zg_iconst hX dL_law_584 585 rfl ?_
  refine zg_iadd hX dL_law_585 586 rfl ?_
  refine zg_sld hX hL hLK (4 * j + 1) (by omega) (by omega) dL_law_586 587 rfl ?_
  refine zg_aload_n hX 0 rfl dL_law_587 rfl 588 rfl ?_
  refine zg_iload_n hX 3 rfl dL_law_588 rfl 589 rfl ?_
  refine zg_iconst hX dL_law_589 590 rfl ?_
  refine zg_iadd hX dL_law_590 591 rfl ?_
  refine zg_sld hX hL hLK (4 * j + 2) (by omega) (by omega) dL_law_591 592 rfl ?_
  refine zg_aload_n hX 0 rfl dL_law_592 rfl 593 rfl ?_
  refine zg_iload_n hX 3 rfl dL_law_593 rfl 594 rfl ?_
  refine zg_iconst hX dL_law_594 595 rfl ?_
  refine zg_iadd hX dL_law_595 596 rfl ?_
  refine zg_sld hX hL hLK (4 * j + 3) (by omega) (by omega) dL_law_596 597 rfl ?_
  refine zg_callP (As := [.int (zI (xs (4 * j + 1)).toInt), .int (zI (xs (4 * j + 2)).toInt), .int (zI (xs (4 * j + 3)).toInt)]) (rest := []) (wc := (cW cI qc f r)) (k0 := 0) (ci := 8) (C := RX9) (T := TX9) (N := 13) (idx := 92) hX (mW cI qm f2 r2) [0, 1, 2, 3, 4, 5, 6, 7, 8, 9, 10, 11, 12, 13, 14, 15, 16, 17, 18, 19, 20, 21, 22, 23, 24, 25, 26, 27, 28] [29, 30, 31, 32, 33, 34, 35, 36, 37, 38, 39, 40, 41, 42] (c_X9_draughts l D cI qc f r σ j ((xs (4 * j + 1)).toInt) ((xs (4 * j + 2)).toInt) ((xs (4 * j + 3)).toInt) hσ (by omega) hc (zI_rng _) (zI_rng _) (zI_rng _)) mw_570 mw_571 mw_572 mw_1 mw_573 sl_X9_draughts (by decide) (by decide) (by decide) (by decide) rfl rfl (lj_cm_C cI qc qm f f2 r r2) (lj_cm_F cI qc qm f f2 r r2) lj_n1.1 (lj_cm_R cI qc qm f f2 r r2) lj_n1.2.1 lj_d1 rfl (Nat.le_of_ble_eq_true rfl) dL_law_597 600 rfl (fun v W1 hp => ?_)
  obtain ⟨f3, r3, rfl, rfl, hc3⟩ := hp
  show G X 4 43 353 (mW cI qm f2 r2 ++ cW cI qc f3 r3) [(0, .ref b), (1, .ref (qc 0)), (2, .ref (qm 0)), (3, .int (zI (4 * (j : Int))))] 600 [.int (zI (o_draughts σ ((xs (4 * j + 1)).toInt) ((xs (4 * j + 2)).toInt) ((xs (4 * j + 3)).toInt)).2)]
  refine zg_aload_n hX 2 rfl dL_law_600 rfl 601 rfl ?_
  refine zg_aload_n hX 0 rfl dL_law_601 rfl 602 rfl ?_
  refine zg_iload_n hX 3 rfl dL_law_602 rfl 603 rfl ?_
  refine zg_iconst hX dL_law_603 604 rfl ?_
  refine zg_iadd hX dL_law_604 605 rfl ?_
  refine zg_sld hX hL hLK (4 * j + 1) (by omega) (by omega) dL_law_605 606 rfl ?_
  refine zg_aload_n hX 0 rfl dL_law_606 rfl 607 rfl ?_
  refine zg_iload_n hX 3 rfl dL_law_607 rfl 608 rfl ?_
  refine zg_iconst hX dL_law_608 609 rfl ?_
  refine zg_iadd hX dL_law_609 610 rfl ?_
  refine zg_sld hX hL hLK (4 * j + 2) (by omega) (by omega) dL_law_610 611 rfl ?_
  refine zg_aload_n hX 0 rfl dL_law_611 rfl 612 rfl ?_
  refine zg_iload_n hX 3 rfl dL_law_612 rfl 613 rfl ?_
  refine zg_iconst hX dL_law_613 614 rfl ?_
  refine zg_iadd hX dL_law_614 615 rfl ?_
  refine zg_sld hX hL hLK (4 * j + 3) (by omega) (by omega) dL_law_615 616 rfl ?_
  refine zg_callP (As := [.int (zI (xs (4 * j + 1)).toInt), .int (zI (xs (4 * j + 2)).toInt), .int (zI (xs (4 * j + 3)).toInt)]) (rest := [.int (zI (o_draughts σ ((xs (4 * j + 1)).toInt) ((xs (4 * j + 2)).toInt) ((xs (4 * j + 3)).toInt)).2)]) (wc := (mW cI qm f2 r2)) (k0 := 0) (ci := 9) (C := RX10) (T := TX10) (N := 33) (idx := 96) hX (cW cI qc f3 r3) [0, 1, 2, 3, 4, 5, 6, 7, 8, 9, 10, 11, 12, 13] [14, 15, 16, 17, 18, 19, 20, 21, 22, 23, 24, 25, 26, 27, 28, 29, 30, 31, 32, 33, 34, 35, 36, 37, 38, 39, 40, 41, 42] (c_X10_draughts l D cI qm f2 r2 σ j ((xs (4 * j + 1)).toInt) ((xs (4 * j + 2)).toInt) ((xs (4 * j + 3)).toInt) hσ (by omega) hm (zI_rng _) (zI_rng _) (zI_rng _)) mw_942 mw_943 mw_944 mw_10 mw_945 sl_X10_draughts (by decide) (by decide) (by decide) (by decide) rfl rfl (lj_mc_C cI qc qm f3 f2 r3 r2) (lj_mc_F cI qc qm f3 f2 r3 r2) lj_n1.2.2.1 (lj_mc_R cI qc qm f3 f2 r3 r2) lj_n1.2.2.2 lj_d2 rfl (Nat.le_of_ble_eq_true rfl) dL_law_616 619 rfl (fun v W1 hp => ?_)
  obtain ⟨f4, r4, rfl, rfl, hm4⟩ := hp
  show G X 4 43 353 (cW cI qc f3 r3 ++ mW cI qm f4 r4) [(0, .ref b), (1, .ref (qc 0)), (2, .ref (qm 0)), (3, .int (zI (4 * (j : Int))))] 619 [.int (zI (o_draughts σ ((xs (4 * j + 1)).toInt) ((xs (4 * j + 2)).toInt) ((xs (4 * j + 3)).toInt)).2), .int (zI (o_draughts σ ((xs (4 * j + 1)).toInt) ((xs (4 * j + 2)).toInt) ((xs (4 * j + 3)).toInt)).2)]
  refine zg_icsame hX dL_law_619 687 (by decide) ?_
  exact J687 _ f3 f4 r3 r4 (sOK_up hσ) hc3 hm4
set_option maxRecDepth 20000 in
theorem law_c20 {X : gT} {l : Launch} {D : va_G} {cI : ClassId} {b L : Nat} {xs : Nat → Int32} (hL : L ≤ 256) (hX : OKB X l D cI RL cL_law 4 100 600000 7302250) (hLK : LK X b L xs) (qc qm : Nat → Nat) (j : Nat) (σ : Sg) (f f2 : Nat → Int) (r r2 : Nat → Nat → Int) (hj : 4 * j + 4 ≤ L) (hσ : sOK σ j) (hc : CRel f r σ) (hm : MRel f2 r2 σ)
    (J687 : ∀ (σ1 : Sg) (f3 f4 : Nat → Int) (r3 r4 : Nat → Nat → Int), sOK σ1 (j + 1) → CRel f3 r3 σ1 → MRel f4 r4 σ1 → G X 4 43 353 (cW cI qc f3 r3 ++ mW cI qm f4 r4) [(0, .ref b), (1, .ref (qc 0)), (2, .ref (qm 0)), (3, .int (zI (4 * (j : Int))))] 687 []) :
    G X 4 43 353 (cW cI qc f r ++ mW cI qm f2 r2) [(0, .ref b), (1, .ref (qc 0)), (2, .ref (qm 0)), (3, .int (zI (4 * (j : Int))))] 624 [] := by
  refine zg_aload_n hX 1 rfl dL_law_624 rfl 625 rfl ?_
  refine zg_callP (As := []) (rest := []) (wc := (cW cI qc f r)) (k0 := 0) (ci := 8) (C := RX9) (T := TX9) (N := 13) (idx := 97) hX (mW cI qm f2 r2) [0, 1, 2, 3, 4, 5, 6, 7, 8, 9, 10, 11, 12, 13, 14, 15, 16, 17, 18, 19, 20, 21, 22, 23, 24, 25, 26, 27, 28] [29, 30, 31, 32, 33, 34, 35, 36, 37, 38, 39, 40, 41, 42] (c_X9_image l D cI qc f r σ j hσ (by omega) hc) mw_594 mw_595 mw_596 mw_1 mw_597 sl_X9_image (by decide) (by decide) (by decide) (by decide) rfl rfl (lj_cm_C cI qc qm f f2 r r2) (lj_cm_F cI qc qm f f2 r r2) lj_n1.1 (lj_cm_R cI qc qm f f2 r r2) lj_n1.2.1 lj_d1 rfl (Nat.le_of_ble_eq_true rfl) dL_law_625 628 rfl (fun v W1 hp => ?_)
  obtain ⟨f3, r3, rfl, rfl, hc3⟩ := hp
  show G X 4 43 353 (mW cI qm f2 r2 ++ cW cI qc f3 r3) [(0, .ref b), (1, .ref (qc 0)), (2, .ref (qm 0)), (3, .int (zI (4 * (j : Int))))] 628 [.int (zI (o_image σ).2)]
  refine zg_aload_n hX 2 rfl dL_law_628 rfl 629 rfl ?_
  refine zg_callP (As := []) (rest := [.int (zI (o_image σ).2)]) (wc := (mW cI qm f2 r2)) (k0 := 0) (ci := 9) (C := RX10) (T := TX10) (N := 33) (idx := 100) hX (cW cI qc f3 r3) [0, 1, 2, 3, 4, 5, 6, 7, 8, 9, 10, 11, 12, 13] [14, 15, 16, 17, 18, 19, 20, 21, 22, 23, 24, 25, 26, 27, 28, 29, 30, 31, 32, 33, 34, 35, 36, 37, 38, 39, 40, 41, 42] (c_X10_image l D cI qm f2 r2 σ j hσ (by omega) hm) mw_956 mw_957 mw_958 mw_10 mw_959 sl_X10_image (by decide) (by decide) (by decide) (by decide) rfl rfl (lj_mc_C cI qc qm f3 f2 r3 r2) (lj_mc_F cI qc qm f3 f2 r3 r2) lj_n1.2.2.1 (lj_mc_R cI qc qm f3 f2 r3 r2) lj_n1.2.2.2 lj_d2 rfl (Nat.le_of_ble_eq_true rfl) dL_law_629 632 rfl (fun v W1 hp => ?_)
  obtain ⟨f4, r4, rfl, rfl, hm4⟩ := hp
  show G X 4 43 353 (cW cI qc f3 r3 ++ mW cI qm f4 r4) [(0, .ref b), (1, .ref (qc 0)), (2, .ref (qm 0)), (3, .int (zI (4 * (j : Int))))] 632 [.int (zI (o_image σ).2), .int (zI (o_image σ).2)]
  refine zg_icsame hX dL_law_632 687 (by decide) ?_
  exact J687 _ f3 f4 r3 r4 (k_image hσ) hc3 hm4
set_option maxRecDepth 20000 in
theorem law_c21 {X : gT} {l : Launch} {D : va_G} {cI : ClassId} {b L : Nat} {xs : Nat → Int32} (hL : L ≤ 256) (hX : OKB X l D cI RL cL_law 4 100 600000 7302250) (hLK : LK X b L xs) (qc qm : Nat → Nat) (j : Nat) (σ : Sg) (f f2 : Nat → Int) (r r2 : Nat → Nat → Int) (hj : 4 * j + 4 ≤ L) (hσ : sOK σ j) (hc : CRel f r σ) (hm : MRel f2 r2 σ)
    (J687 : ∀ (σ1 : Sg) (f3 f4 : Nat → Int) (r3 r4 : Nat → Nat → Int), sOK σ1 (j + 1) → CRel f3 r3 σ1 → MRel f4 r4 σ1 → G X 4 43 353 (cW cI qc f3 r3 ++ mW cI qm f4 r4) [(0, .ref b), (1, .ref (qc 0)), (2, .ref (qm 0)), (3, .int (zI (4 * (j : Int))))] 687 []) :
    G X 4 43 353 (cW cI qc f r ++ mW cI qm f2 r2) [(0, .ref b), (1, .ref (qc 0)), (2, .ref (qm 0)), (3, .int (zI (4 * (j : Int))))] 637 [] := by
  refine zg_aload_n hX 1 rfl dL_law_637 rfl 638 rfl ?_
  refine zg_callP (As := []) (rest := []) (wc := (cW cI qc f r)) (k0 := 0) (ci := 8) (C := RX9) (T := TX9) (N := 13) (idx := 101) hX (mW cI qm f2 r2) [0, 1, 2, 3, 4, 5, 6, 7, 8, 9, 10, 11, 12, 13, 14, 15, 16, 17, 18, 19, 20, 21, 22, 23, 24, 25, 26, 27, 28] [29, 30, 31, 32, 33, 34, 35, 36, 37, 38, 39, 40, 41, 42] (c_X9_restore l D cI qc f r σ j hσ (by omega) hc) mw_603 mw_604 mw_605 mw_1 mw_606 sl_X9_restore (by decide) (by decide) (by decide) (by decide) rfl rfl (lj_cm_C cI qc qm f f2 r r2) (lj_cm_F cI qc qm f f2 r r2) lj_n1.1 (lj_cm_R cI qc qm f f2 r r2) lj_n1.2.1 lj_d1 rfl (Nat.le_of_ble_eq_true rfl) dL_law_638 641 rfl (fun v W1 hp => ?_)
  obtain ⟨f3, r3, rfl, rfl, hc3⟩ := hp
  show G X 4 43 353 (mW cI qm f2 r2 ++ cW cI qc f3 r3) [(0, .ref b), (1, .ref (qc 0)), (2, .ref (qm 0)), (3, .int (zI (4 * (j : Int))))] 641 [.int (zI (o_restore σ).2)]
  refine zg_aload_n hX 2 rfl dL_law_641 rfl 642 rfl ?_
  refine zg_callP (As := []) (rest := [.int (zI (o_restore σ).2)]) (wc := (mW cI qm f2 r2)) (k0 := 0) (ci := 9) (C := RX10) (T := TX10) (N := 33) (idx := 104) hX (cW cI qc f3 r3) [0, 1, 2, 3, 4, 5, 6, 7, 8, 9, 10, 11, 12, 13] [14, 15, 16, 17, 18, 19, 20, 21, 22, 23, 24, 25, 26, 27, 28, 29, 30, 31, 32, 33, 34, 35, 36, 37, 38, 39, 40, 41, 42] (c_X10_restore l D cI qm f2 r2 σ j hσ (by omega) hm) mw_960 mw_961 mw_962 mw_10 mw_963 sl_X10_restore (by decide) (by decide) (by decide) (by decide) rfl rfl (lj_mc_C cI qc qm f3 f2 r3 r2) (lj_mc_F cI qc qm f3 f2 r3 r2) lj_n1.2.2.1 (lj_mc_R cI qc qm f3 f2 r3 r2) lj_n1.2.2.2 lj_d2 rfl (Nat.le_of_ble_eq_true rfl) dL_law_642 645 rfl (fun v W1 hp => ?_)
  obtain ⟨f4, r4, rfl, rfl, hm4⟩ := hp
  show G X 4 43 353 (cW cI qc f3 r3 ++ mW cI qm f4 r4) [(0, .ref b), (1, .ref (qc 0)), (2, .ref (qm 0)), (3, .int (zI (4 * (j : Int))))] 645 [.int (zI (o_restore σ).2), .int (zI (o_restore σ).2)]
  refine zg_icsame hX dL_law_645 687 (by decide) ?_
  exact J687 _ f3 f4 r3 r4 (k_restore hσ) hc3 hm4
set_option maxRecDepth 20000 in
theorem law_c22 {X : gT} {l : Launch} {D : va_G} {cI : ClassId} {b L : Nat} {xs : Nat → Int32} (hL : L ≤ 256) (hX : OKB X l D cI RL cL_law 4 100 600000 7302250) (hLK : LK X b L xs) (qc qm : Nat → Nat) (j : Nat) (σ : Sg) (f f2 : Nat → Int) (r r2 : Nat → Nat → Int) (hj : 4 * j + 4 ≤ L) (hσ : sOK σ j) (hc : CRel f r σ) (hm : MRel f2 r2 σ)
    (J687 : ∀ (σ1 : Sg) (f3 f4 : Nat → Int) (r3 r4 : Nat → Nat → Int), sOK σ1 (j + 1) → CRel f3 r3 σ1 → MRel f4 r4 σ1 → G X 4 43 353 (cW cI qc f3 r3 ++ mW cI qm f4 r4) [(0, .ref b), (1, .ref (qc 0)), (2, .ref (qm 0)), (3, .int (zI (4 * (j : Int))))] 687 []) :
    G X 4 43 353 (cW cI qc f r ++ mW cI qm f2 r2) [(0, .ref b), (1, .ref (qc 0)), (2, .ref (qm 0)), (3, .int (zI (4 * (j : Int))))] 650 [] := by
  refine zg_aload_n hX 1 rfl dL_law_650 rfl 651 rfl ?_
  refine zg_aload_n hX 0 rfl dL_law_651 rfl 652 rfl ?_
  refine zg_iload_n hX 3 rfl dL_law_652 rfl 653 rfl ?_
  refine zg_iconst hX dL_law_653 654 rfl ?_
  refine zg_iadd hX dL_law_654 655 rfl ?_
  refine zg_sld hX hL hLK (4 * j + 1) (by omega) (by omega) dL_law_655 656 rfl ?_
  refine zg_callP (As := [.int (zI (xs (4 * j + 1)).toInt)]) (rest := []) (wc := (cW cI qc f r)) (k0 := 0) (ci := 8) (C := RX9) (T := TX9) (N := 13) (idx := 105) hX (mW cI qm f2 r2) [0, 1, 2, 3, 4, 5, 6, 7, 8, 9, 10, 11, 12, 13, 14, 15, 16, 17, 18, 19, 20, 21, 22, 23, 24, 25, 26, 27, 28] [29, 30, 31, 32, 33, 34, 35, 36, 37, 38, 39, 40, 41, 42] (c_X9_count l D cI qc f r σ j ((xs (4 * j + 1)).toInt) hσ (by omega) hc (zI_rng _)) mw_607 mw_608 mw_609 mw_1 mw_610 sl_X9_count (by decide) (by decide) (by decide) (by decide) rfl rfl (lj_cm_C cI qc qm f f2 r r2) (lj_cm_F cI qc qm f f2 r r2) lj_n1.1 (lj_cm_R cI qc qm f f2 r r2) lj_n1.2.1 lj_d1 rfl (Nat.le_of_ble_eq_true rfl) dL_law_656 659 rfl (fun v W1 hp => ?_)
  obtain ⟨f3, r3, rfl, rfl, hc3⟩ := hp
  show G X 4 43 353 (mW cI qm f2 r2 ++ cW cI qc f3 r3) [(0, .ref b), (1, .ref (qc 0)), (2, .ref (qm 0)), (3, .int (zI (4 * (j : Int))))] 659 [.int (zI (o_count σ ((xs (4 * j + 1)).toInt)).2)]
  refine zg_aload_n hX 2 rfl dL_law_659 rfl 660 rfl ?_
  refine zg_aload_n hX 0 rfl dL_law_660 rfl 661 rfl ?_
  refine zg_iload_n hX 3 rfl dL_law_661 rfl 662 rfl ?_
  refine zg_iconst hX dL_law_662 663 rfl ?_
  refine zg_iadd hX dL_law_663 664 rfl ?_
  refine zg_sld hX hL hLK (4 * j + 1) (by omega) (by omega) dL_law_664 665 rfl ?_
  refine zg_callP (As := [.int (zI (xs (4 * j + 1)).toInt)]) (rest := [.int (zI (o_count σ ((xs (4 * j + 1)).toInt)).2)]) (wc := (mW cI qm f2 r2)) (k0 := 0) (ci := 9) (C := RX10) (T := TX10) (N := 33) (idx := 108) hX (cW cI qc f3 r3) [0, 1, 2, 3, 4, 5, 6, 7, 8, 9, 10, 11, 12, 13] [14, 15, 16, 17, 18, 19, 20, 21, 22, 23, 24, 25, 26, 27, 28, 29, 30, 31, 32, 33, 34, 35, 36, 37, 38, 39, 40, 41, 42] (c_X10_count l D cI qm f2 r2 σ j ((xs (4 * j + 1)).toInt) hσ (by omega) hm (zI_rng _)) mw_964 mw_965 mw_966 mw_10 mw_967 sl_X10_count (by decide) (by decide) (by decide) (by decide) rfl rfl (lj_mc_C cI qc qm f3 f2 r3 r2) (lj_mc_F cI qc qm f3 f2 r3 r2) lj_n1.2.2.1 (lj_mc_R cI qc qm f3 f2 r3 r2) lj_n1.2.2.2 lj_d2 rfl (Nat.le_of_ble_eq_true rfl) dL_law_665 668 rfl (fun v W1 hp => ?_)
  obtain ⟨f4, r4, rfl, rfl, hm4⟩ := hp
  show G X 4 43 353 (cW cI qc f3 r3 ++ mW cI qm f4 r4) [(0, .ref b), (1, .ref (qc 0)), (2, .ref (qm 0)), (3, .int (zI (4 * (j : Int))))] 668 [.int (zI (o_count σ ((xs (4 * j + 1)).toInt)).2), .int (zI (o_count σ ((xs (4 * j + 1)).toInt)).2)]
  refine zg_icsame hX dL_law_668 687 (by decide) ?_
  exact J687 _ f3 f4 r3 r4 (sOK_up hσ) hc3 hm4
set_option maxRecDepth 20000 in
theorem law_c23 {X : gT} {l : Launch} {D : va_G} {cI : ClassId} {b L : Nat} {xs : Nat → Int32} (hL : L ≤ 256) (hX : OKB X l D cI RL cL_law 4 100 600000 7302250) (hLK : LK X b L xs) (qc qm : Nat → Nat) (j : Nat) (σ : Sg) (f f2 : Nat → Int) (r r2 : Nat → Nat → Int) (hj : 4 * j + 4 ≤ L) (hσ : sOK σ j) (hc : CRel f r σ) (hm : MRel f2 r2 σ)
    (J687 : ∀ (σ1 : Sg) (f3 f4 : Nat → Int) (r3 r4 : Nat → Nat → Int), sOK σ1 (j + 1) → CRel f3 r3 σ1 → MRel f4 r4 σ1 → G X 4 43 353 (cW cI qc f3 r3 ++ mW cI qm f4 r4) [(0, .ref b), (1, .ref (qc 0)), (2, .ref (qm 0)), (3, .int (zI (4 * (j : Int))))] 687 []) :
    G X 4 43 353 (cW cI qc f r ++ mW cI qm f2 r2) [(0, .ref b), (1, .ref (qc 0)), (2, .ref (qm 0)), (3, .int (zI (4 * (j : Int))))] 673 [] := by
  refine zg_aload_n hX 1 rfl dL_law_673 rfl 674 rfl ?_
  refine zg_callP (As := []) (rest := []) (wc := (cW cI qc f r)) (k0 := 0) (ci := 8) (C := RX9) (T := TX9) (N := 13) (idx := 109) hX (mW cI qm f2 r2) [0, 1, 2, 3, 4, 5, 6, 7, 8, 9, 10, 11, 12, 13, 14, 15, 16, 17, 18, 19, 20, 21, 22, 23, 24, 25, 26, 27, 28] [29, 30, 31, 32, 33, 34, 35, 36, 37, 38, 39, 40, 41, 42] (c_X9_digest l D cI qc f r σ j hσ (by omega) hc) mw_625 mw_626 mw_627 mw_1 mw_628 sl_X9_digest (by decide) (by decide) (by decide) (by decide) rfl rfl (lj_cm_C cI qc qm f f2 r r2) (lj_cm_F cI qc qm f f2 r r2) lj_n1.1 (lj_cm_R cI qc qm f f2 r r2) lj_n1.2.1 lj_d1 rfl (Nat.le_of_ble_eq_true rfl) dL_law_674 677 rfl (fun v W1 hp => ?_)
  obtain ⟨f3, r3, rfl, rfl, hc3⟩ := hp
  show G X 4 43 353 (mW cI qm f2 r2 ++ cW cI qc f3 r3) [(0, .ref b), (1, .ref (qc 0)), (2, .ref (qm 0)), (3, .int (zI (4 * (j : Int))))] 677 [.long (zL (o_digest σ).2)]
  refine zg_aload_n hX 2 rfl dL_law_677 rfl 678 rfl ?_
  refine zg_callP (As := []) (rest := [.long (zL (o_digest σ).2)]) (wc := (mW cI qm f2 r2)) (k0 := 0) (ci := 9) (C := RX10) (T := TX10) (N := 33) (idx := 113) hX (cW cI qc f3 r3) [0, 1, 2, 3, 4, 5, 6, 7, 8, 9, 10, 11, 12, 13] [14, 15, 16, 17, 18, 19, 20, 21, 22, 23, 24, 25, 26, 27, 28, 29, 30, 31, 32, 33, 34, 35, 36, 37, 38, 39, 40, 41, 42] (c_X10_digest l D cI qm f2 r2 σ j hσ (by omega) hm) mw_972 mw_973 mw_974 mw_10 mw_975 sl_X10_digest (by decide) (by decide) (by decide) (by decide) rfl rfl (lj_mc_C cI qc qm f3 f2 r3 r2) (lj_mc_F cI qc qm f3 f2 r3 r2) lj_n1.2.2.1 (lj_mc_R cI qc qm f3 f2 r3 r2) lj_n1.2.2.2 lj_d2 rfl (Nat.le_of_ble_eq_true rfl) dL_law_678 681 rfl (fun v W1 hp => ?_)
  obtain ⟨f4, r4, rfl, rfl, hm4⟩ := hp
  show G X 4 43 353 (cW cI qc f3 r3 ++ mW cI qm f4 r4) [(0, .ref b), (1, .ref (qc 0)), (2, .ref (qm 0)), (3, .int (zI (4 * (j : Int))))] 681 [.long (zL (o_digest σ).2), .long (zL (o_digest σ).2)]
  refine zg_lsame hX dL_law_681 682 rfl ?_
  refine zg_if_eq hX (by decide) dL_law_682 687 (by decide) 685 rfl (fun _ => ?_) (fun z => absurd rfl z)
  exact J687 _ f3 f4 r3 r4 (sOK_up hσ) hc3 hm4
theorem law_loop {X : gT} {l : Launch} {D : va_G} {cI : ClassId} {b L : Nat} {xs : Nat → Int32} (hL : L ≤ 256) (hX : OKB X l D cI RL cL_law 4 100 600000 7302250) (hLK : LK X b L xs) (qc qm : Nat → Nat) (KE : ∀ (ws : va_W) (lv : List (Nat × Value)), G X 4 43 353 ws lv 694 [.int (zI 1)]) (fuel : Nat) : ∀ (j : Nat) (σ : Sg) (f f2 : Nat → Int) (r r2 : Nat → Nat → Int), L < 4 * j + fuel → 4 * j ≤ L → sOK σ j → CRel f r σ → MRel f2 r2 σ → G X 4 43 353 (cW cI qc f r ++ mW cI qm f2 r2) [(0, .ref b), (1, .ref (qc 0)), (2, .ref (qm 0)), (3, .int (zI (4 * (j : Int))))] 18 [] := by
  induction fuel with
  | zero => intro j σ f f2 r r2 h1 h2; omega
  | succ fuel ih =>
    intro j σ f f2 r r2 h1 h2 hσ hc hm
    refine zg_iload_n hX 3 rfl dL_law_18 rfl 19 rfl ?_
    refine zg_aload_n hX 0 rfl dL_law_19 rfl 20 rfl ?_
    refine zg_slen hX hLK dL_law_20 21 rfl ?_
    refine zg_iconst hX dL_law_21 22 rfl ?_
    refine zg_isub hX dL_law_22 23 rfl ?_
    refine zg_icmp_gt hX (by omega) (by omega) dL_law_23 693 (by decide) 26 rfl (fun h23 => ?_) (fun h23 => ?_)
    · refine zg_iconst hX dL_law_693 694 rfl ?_
      exact KE _ _
    · have J687 : ∀ (σ1 : Sg) (f3 f4 : Nat → Int) (r3 r4 : Nat → Nat → Int), sOK σ1 (j + 1) → CRel f3 r3 σ1 → MRel f4 r4 σ1 → G X 4 43 353 (cW cI qc f3 r3 ++ mW cI qm f4 r4) [(0, .ref b), (1, .ref (qc 0)), (2, .ref (qm 0)), (3, .int (zI (4 * (j : Int))))] 687 [] := by
        intro σ1 f3 f4 r3 r4 g1 g2 g3
        refine zg_iinc hX [(3, .int (zI (4 * (j : Int) + 4))), (0, .ref b), (1, .ref (qc 0)), (2, .ref (qm 0))] 3 rfl dL_law_687 (by decide) rfl 690 rfl ?_
        refine zg_goto hX dL_law_690 18 (by decide) ?_
        refine zg_lv _ [1, 2, 3, 0] rfl ?_
        have e := ih (j + 1) σ1 f3 f4 r3 r4 (by omega) (by omega) g1 g2 g3
        rw [show 4 * ((j + 1 : Nat) : Int) = 4 * (j : Int) + 4 by omega] at e
        exact e
      refine zg_aload_n hX 0 rfl dL_law_26 rfl 27 rfl ?_
      refine zg_iload_n hX 3 rfl dL_law_27 rfl 28 rfl ?_
      refine zg_sld hX hL hLK (4 * j) (by omega) (by omega) dL_law_28 29 rfl ?_
      refine zg_bipush hX dL_law_29 31 rfl (by decide) ?_
      refine zg_iand hX ((xs (4 * j) &&& 31).toInt) (by rw [← zI_of (xs (4 * j)), ← zI_of (xs (4 * j) &&& 31)]; rfl) dL_law_31 32 rfl ?_
      have har := zI_rng (xs (4 * j) &&& 31)
      generalize (xs (4 * j) &&& 31).toInt = a at har ⊢
      rcases (show a < 0 ∨ 23 < a ∨ a = 0 ∨ a = 1 ∨ a = 2 ∨ a = 3 ∨ a = 4 ∨ a = 5 ∨ a = 6 ∨ a = 7 ∨ a = 8 ∨ a = 9 ∨ a = 10 ∨ a = 11 ∨ a = 12 ∨ a = 13 ∨ a = 14 ∨ a = 15 ∨ a = 16 ∨ a = 17 ∨ a = 18 ∨ a = 19 ∨ a = 20 ∨ a = 21 ∨ a = 22 ∨ a = 23 by omega) with h | h | h | h | h | h | h | h | h | h | h | h | h | h | h | h | h | h | h | h | h | h | h | h | h | h
      · exact zg_tableOut hX har dL_law_32 (Or.inl h) 687 (by decide) (J687 σ f f2 r r2 (sOK_up hσ) hc hm)
      · exact zg_tableOut hX har dL_law_32 (Or.inr h) 687 (by decide) (J687 σ f f2 r r2 (sOK_up hσ) hc hm)
      · exact zg_tableIn hX har dL_law_32 (by omega) (by omega) 0 (by omega) rfl 144 (by decide) (law_c0 hL hX hLK qc qm j σ f f2 r r2 (by omega) hσ hc hm J687)
      · exact zg_tableIn hX har dL_law_32 (by omega) (by omega) 1 (by omega) rfl 167 (by decide) (law_c1 hL hX hLK qc qm j σ f f2 r r2 (by omega) hσ hc hm J687)
      · exact zg_tableIn hX har dL_law_32 (by omega) (by omega) 2 (by omega) rfl 180 (by decide) (law_c2 hL hX hLK qc qm j σ f f2 r r2 (by omega) hσ hc hm J687)
      · exact zg_tableIn hX har dL_law_32 (by omega) (by omega) 3 (by omega) rfl 193 (by decide) (law_c3 hL hX hLK qc qm j σ f f2 r r2 (by omega) hσ hc hm J687)
      · exact zg_tableIn hX har dL_law_32 (by omega) (by omega) 4 (by omega) rfl 206 (by decide) (law_c4 hL hX hLK qc qm j σ f f2 r r2 (by omega) hσ hc hm J687)
      · exact zg_tableIn hX har dL_law_32 (by omega) (by omega) 5 (by omega) rfl 239 (by decide) (law_c5 hL hX hLK qc qm j σ f f2 r r2 (by omega) hσ hc hm J687)
      · exact zg_tableIn hX har dL_law_32 (by omega) (by omega) 6 (by omega) rfl 272 (by decide) (law_c6 hL hX hLK qc qm j σ f f2 r r2 (by omega) hσ hc hm J687)
      · exact zg_tableIn hX har dL_law_32 (by omega) (by omega) 7 (by omega) rfl 305 (by decide) (law_c7 hL hX hLK qc qm j σ f f2 r r2 (by omega) hσ hc hm J687)
      · exact zg_tableIn hX har dL_law_32 (by omega) (by omega) 8 (by omega) rfl 338 (by decide) (law_c8 hL hX hLK qc qm j σ f f2 r r2 (by omega) hσ hc hm J687)
      · exact zg_tableIn hX har dL_law_32 (by omega) (by omega) 9 (by omega) rfl 361 (by decide) (law_c9 hL hX hLK qc qm j σ f f2 r r2 (by omega) hσ hc hm J687)
      · exact zg_tableIn hX har dL_law_32 (by omega) (by omega) 10 (by omega) rfl 394 (by decide) (law_c10 hL hX hLK qc qm j σ f f2 r r2 (by omega) hσ hc hm J687)
      · exact zg_tableIn hX har dL_law_32 (by omega) (by omega) 11 (by omega) rfl 407 (by decide) (law_c11 hL hX hLK qc qm j σ f f2 r r2 (by omega) hσ hc hm J687)
      · exact zg_tableIn hX har dL_law_32 (by omega) (by omega) 12 (by omega) rfl 420 (by decide) (law_c12 hL hX hLK qc qm j σ f f2 r r2 (by omega) hσ hc hm J687)
      · exact zg_tableIn hX har dL_law_32 (by omega) (by omega) 13 (by omega) rfl 443 (by decide) (law_c13 hL hX hLK qc qm j σ f f2 r r2 (by omega) hσ hc hm J687)
      · exact zg_tableIn hX har dL_law_32 (by omega) (by omega) 14 (by omega) rfl 466 (by decide) (law_c14 hL hX hLK qc qm j σ f f2 r r2 (by omega) hσ hc hm J687)
      · exact zg_tableIn hX har dL_law_32 (by omega) (by omega) 15 (by omega) rfl 489 (by decide) (law_c15 hL hX hLK qc qm j σ f f2 r r2 (by omega) hσ hc hm J687)
      · exact zg_tableIn hX har dL_law_32 (by omega) (by omega) 16 (by omega) rfl 522 (by decide) (law_c16 hL hX hLK qc qm j σ f f2 r r2 (by omega) hσ hc hm J687)
      · exact zg_tableIn hX har dL_law_32 (by omega) (by omega) 17 (by omega) rfl 535 (by decide) (law_c17 hL hX hLK qc qm j σ f f2 r r2 (by omega) hσ hc hm J687)
      · exact zg_tableIn hX har dL_law_32 (by omega) (by omega) 18 (by omega) rfl 558 (by decide) (law_c18 hL hX hLK qc qm j σ f f2 r r2 (by omega) hσ hc hm J687)
      · exact zg_tableIn hX har dL_law_32 (by omega) (by omega) 19 (by omega) rfl 581 (by decide) (law_c19 hL hX hLK qc qm j σ f f2 r r2 (by omega) hσ hc hm J687)
      · exact zg_tableIn hX har dL_law_32 (by omega) (by omega) 20 (by omega) rfl 624 (by decide) (law_c20 hL hX hLK qc qm j σ f f2 r r2 (by omega) hσ hc hm J687)
      · exact zg_tableIn hX har dL_law_32 (by omega) (by omega) 21 (by omega) rfl 637 (by decide) (law_c21 hL hX hLK qc qm j σ f f2 r r2 (by omega) hσ hc hm J687)
      · exact zg_tableIn hX har dL_law_32 (by omega) (by omega) 22 (by omega) rfl 650 (by decide) (law_c22 hL hX hLK qc qm j σ f f2 r r2 (by omega) hσ hc hm J687)
      · exact zg_tableIn hX har dL_law_32 (by omega) (by omega) 23 (by omega) rfl 673 (by decide) (law_c23 hL hX hLK qc qm j σ f f2 r r2 (by omega) hσ hc hm J687)
