-- NEW OBJECTS AND ARRAYS, CONSTRUCTORS
theorem zg_obj {X : gT} {l : Launch} {D : va_G} {cI : ClassId} {own : String} {cc : ByteArray} {nL lvl mc ms k n : Nat} {ws : va_W} {lv : List (Nat × Value)} {pc : Nat} (hX : OKB X l D cI own cc nL lvl mc ms) {a idx : Nat} (hv : 1 ≤ lvl) (w1 : Cond.methodLink own idx objectInit ∈ lw_u) (w2 : Cond.instanceMethod objectInit ∈ lw_u) (w3 : Cond.code objectInit ⟨#[0xb1]⟩ 1 none ∈ lw_u) (hd : decode cc pc = .ok (.invokespecial idx, 3)) (q : Nat) (hq : pc + 3 = q) (kk : G X nL k n ws lv q []) : G X nL k n ws lv pc [.ref a] := by
  obtain ⟨p, l', e, R, s, m, args, below, meth, c, D', cI', A, Q⟩ := X
  obtain ⟨rfl, rfl, rfl, hx, hb, hml, hown, hts, hK, hA, hfr, hlo, hmc, hms, hst, hns⟩ := hX
  subst hq
  intro H locs ls hP hD hS hl
  refine W.objInit hx hb hown (hts _ w1) (hts _ w2) (hts _ w3) rfl (by rw [hml]; exact hl.1) rfl hd (by omega) (by show 0 + 0 + 12 ≤ R.locals; omega) ?_
  refine W.eq (g2 := F0 m (pc + 3) ls []) rfl ?_
  exact kk H locs ls hP hD hS hl
theorem zg_newa {X : gT} {l : Launch} {D : va_G} {cI : ClassId} {own : String} {cc : ByteArray} {nL lvl mc ms k n : Nat} {ws : va_W} {lv : List (Nat × Value)} {pc : Nat} {st : List Value} (hX : OKB X l D cI own cc nL lvl mc ms) (N : Nat) (hN : N < 1000) (w : Cond.arrayClass .int ∈ lw_u) (hk : k + 1 ≤ mc) (hn : n + N ≤ ms) (hd : decode cc pc = .ok (.newarray .int, 2)) (q : Nat) (hq : pc + 2 = q) (kk : ∀ x : Nat, G X nL (k + 1) (n + N) (ws ++ [(x, .inl (cI, N, .inl (zR (fun _ => 0))))]) lv q (.ref x :: st)) : G X nL k n ws lv pc (.int (zI (N : Int)) :: st) := by
  obtain ⟨p, l', e, R, s, m, args, below, meth, c, D', cI', A, Q⟩ := X
  obtain ⟨rfl, rfl, rfl, hx, hb, hml, hown, hts, hK, hA, hfr, hlo, hmc, hms, hst, hns⟩ := hX
  subst hq
  intro H locs ls hP hD hS hl
  refine va_newa (atype := .int) (ty := .int) (a0 := (N, .inl (zR (fun _ => 0)))) (N' := N) hx hb (show (Cond.arrayClass (newarray.typeOf .int)).before args s = true from hts (.arrayClass .int) w) rfl hK hP hD hS hA (fun cA => rfl) (by rw [zI_z, zI_lt (by omega) (by omega)]; omega) (zI_cl N rfl hN) (by show N * 4 ≤ 536870912; omega) (by omega) (by omega) hd ?_
  intro x cA H1 hK1 hP1 hD1 hS1
  have e1 : s.vm.findClass ("[" ++ FieldType.int.toString) = some cA := (hK1.2 1 _ rfl).2
  have e2 : s.vm.findClass ("[" ++ FieldType.int.toString) = some cI' := (hK.2 0 _ rfl).2
  have e3 : cA = cI' := Option.some.inj (e1.symm.trans e2)
  subst e3
  exact kk x H1 locs ls hP1 hD1 hS1 hl
theorem zg_new {X : gT} {l : Launch} {D : va_G} {cI : ClassId} {own : String} {cc : ByteArray} {nL lvl mc ms k n : Nat} {ws : va_W} {lv : List (Nat × Value)} {pc : Nat} {st : List Value} (hX : OKB X l D cI own cc nL lvl mc ms) {C : String} {T : u_T} {N ci idx : Nat} {ty0 : Nat → FieldType} (fs : List Value) (hc : vwCl[ci]? = some (C, T, N)) (hin : ∀ w ∈ u_ws C T N, w ∈ lw_u) (hty : ∀ k, k < N → parseFieldDescriptor (T k).2.2.1 = some (ty0 k)) (w1 : Cond.classLink own idx C ∈ lw_u) (w2 : Cond.instantiable C N ∈ lw_u) (w3 : Cond.initialized C ∈ lw_u) (hfs : ∀ j, j < N → defaultValue (ty0 j) = vp_V fs j) (hk : k + 1 ≤ mc) (hn : n + N ≤ ms) (hd : decode cc pc = .ok (.new idx, 3)) (q : Nat) (hq : pc + 3 = q) (kk : ∀ x : Nat, G X nL (k + 1) (n + N) (ws ++ [(x, .inr (ci, fs))]) lv q (.ref x :: st)) : G X nL k n ws lv pc st := by
  obtain ⟨p, l', e, R, s, m, args, below, meth, c, D', cI', A, Q⟩ := X
  obtain ⟨rfl, rfl, rfl, hx, hb, hml, hown, hts, hK, hA, hfr, hlo, hmc, hms, hst, hns⟩ := hX
  subst hq
  intro H locs ls hP hD hS hl
  refine va_new (ci := ci) (fs := fs) (C := C) (T := T) (N := N) hx hb hts hin ty0 hty hown (hts _ w1) (hts _ w2) (hts _ w3) hK hP hD hS hA hc hfs (by omega) (by omega) hd ?_
  intro x H1 hP1 hD1 hS1
  exact kk x H1 locs ls hP1 hD1 hS1 hl
theorem zg_callI {X : gT} {l : Launch} {D : va_G} {cI : ClassId} {own : String} {cc : ByteArray} {nL lvl mc ms k n : Nat} {ws : va_W} {lv : List (Nat × Value)} {pc : Nat} {st : List Value} (hX : OKB X l D cI own cc nL lvl mc ms) {yc : MethodName} {cc2 : ByteArray} {nL2 lvl2 mc2 ms2 idx b : Nat} {As : List Value} {post2 : Option Value → va_W → Prop} {rest : List Value} {wc : va_W} (wr : va_W) (isC isR : List Nat) (hM : Cn l D cI yc cc2 nL2 none lvl2 mc2 ms2 (.ref b :: As) wc post2) (w1 : Cond.methodLink own idx yc ∈ lw_u) (w2 : Cond.instanceMethod yc ∈ lw_u) (w4 : Cond.initialized yc.cls ∈ lw_u) (w5 : Cond.code yc cc2 nL2 none ∈ lw_u) (hy : yc.name = "<init>") (hs : yc.cls ≠ "java/lang/invoke/MethodHandle" ∧ yc.cls ≠ "java/lang/invoke/VarHandle" ∧ (parseMethodDescriptor yc.desc).map (fun d => d.parameters.length) = some As.length) (hlv : lvl2 < lvl) (hnl : nL2 ≤ 45) (hk : k + mc2 ≤ mc) (hn : n + ms2 ≤ ms) (hC : isC.map (fun i => ws[i]?) = wc.map some) (hCf : isC.filterMap (fun i => ws[i]?) = wc) (hnC : va_nd isC = true) (hRw : isR.map (fun i => ws[i]?) = wr.map some) (hnR : va_nd isR = true) (hdis : ∀ i ∈ isR, i ∉ isC) (hst2 : st = As.reverse ++ .ref b :: rest) (hcat : (rest.map fun v => v.category).sum ≤ 8) (hd : decode cc pc = .ok (.invokespecial idx, 3)) (q : Nat) (hq : pc + 3 = q) (kk : ∀ v W1, post2 v W1 → G X nL (k + mc2) (n + ms2) (wr ++ W1) lv q (v.toList ++ rest)) : G X nL k n ws lv pc st := by
  obtain ⟨p, l', e, R, s, m, args, below, meth, c, D', cI', A, Q⟩ := X
  obtain ⟨rfl, rfl, rfl, hx, hb, hml, hown, hts, hK, hA, hfr, hlo, hmc, hms, hst, hns⟩ := hX
  subst hq
  intro H locs ls hP hD hS hl
  have hFc := va_free (wc := wc) hD hS hA isC hC
  have hPc := hP.sub isC hCf
  have hDc := hD.sub isC hnC hC
  refine zc_run (va_runI (As := As) (rest := rest) ⟨hx, hb, hml, hown, hts⟩ (hM H.size) (cwI As.length hts (zc_good w5) rfl rfl rfl (hts _ w4) (hts _ w1) (hts _ w2) hy hs ⟨by show lvl2 + 1 ≤ R.frames; omega, by show 8 + (nL2 + 11) + 64 * lvl2 ≤ R.locals; omega⟩) ⟨zc_blind, (fun U hU hW => ⟨rfl, by rw [hU], by rw [hU]; exact hPc, va_K.moved hW.alike hK, hDc.weaken (fun _ _ _ _ => trivial), by rw [hU]; exact zst_go hst hW.alike (fun a h1 h2 => hS.2.1 a h1 h2) hFc, nst_warm hW hns⟩)⟩ rfl rfl hl.1 hst2 (lv_room hcat) hd ⟨by omega, by omega⟩) hS (fun q _ h => hFc q h) hFc (fun v W1 H1 locs1 hp hP1 hD1 _ hk1 hS1 => ?_)
  obtain ⟨hPj, hDj⟩ := va_join hP hD isC isR hC hRw hnR hdis hk1 hFc hP1 hD1
  exact kk v W1 hp H1 locs1 ls hPj hDj hS1 hl
theorem zg_callIN {X : gT} {l : Launch} {D : va_G} {cI : ClassId} {own : String} {cc : ByteArray} {nL lvl mc ms k n : Nat} {ws : va_W} {lv : List (Nat × Value)} {pc : Nat} {st : List Value} (hX : OKB X l D cI own cc nL lvl mc ms) {yc : MethodName} {cc2 : ByteArray} {nL2 lvl2 mc2 ms2 idx b : Nat} {As : List Value} {post2 : Option Value → va_W → Prop} {rest : List Value} {wc : va_W} (wr : va_W) (isC isR : List Nat) (hM : Cn l D cI yc cc2 nL2 none lvl2 mc2 ms2 (.ref b :: As) wc post2) {host : String} (w1 : Cond.methodLinkNest own idx yc host ∈ nws) (w2 : Cond.instanceMethod yc ∈ lw_u) (w4 : Cond.initialized yc.cls ∈ lw_u) (w5 : Cond.code yc cc2 nL2 none ∈ lw_u) (hy : yc.name = "<init>") (hs : yc.cls ≠ "java/lang/invoke/MethodHandle" ∧ yc.cls ≠ "java/lang/invoke/VarHandle" ∧ (parseMethodDescriptor yc.desc).map (fun d => d.parameters.length) = some As.length) (hlv : lvl2 < lvl) (hnl : nL2 ≤ 45) (hk : k + mc2 ≤ mc) (hn : n + ms2 ≤ ms) (hC : isC.map (fun i => ws[i]?) = wc.map some) (hCf : isC.filterMap (fun i => ws[i]?) = wc) (hnC : va_nd isC = true) (hRw : isR.map (fun i => ws[i]?) = wr.map some) (hnR : va_nd isR = true) (hdis : ∀ i ∈ isR, i ∉ isC) (hst2 : st = As.reverse ++ .ref b :: rest) (hcat : (rest.map fun v => v.category).sum ≤ 8) (hd : decode cc pc = .ok (.invokespecial idx, 3)) (q : Nat) (hq : pc + 3 = q) (kk : ∀ v W1, post2 v W1 → G X nL (k + mc2) (n + ms2) (wr ++ W1) lv q (v.toList ++ rest)) : G X nL k n ws lv pc st := by
  obtain ⟨p, l', e, R, s, m, args, below, meth, c, D', cI', A, Q⟩ := X
  obtain ⟨rfl, rfl, rfl, hx, hb, hml, hown, hts, hK, hA, hfr, hlo, hmc, hms, hst, hns⟩ := hX
  subst hq
  intro H locs ls hP hD hS hl
  have hFc := va_free (wc := wc) hD hS hA isC hC
  have hPc := hP.sub isC hCf
  have hDc := hD.sub isC hnC hC
  refine zc_run (va_runIN (As := As) (rest := rest) ⟨hx, hb, hml, hown, hts⟩ (hM H.size) ⟨va_cnB As.length hts (zc_good w5) rfl rfl rfl (hns _ w1) (hts _ w4) hs ⟨by show lvl2 + 1 ≤ R.frames; omega, by show 8 + (nL2 + 11) + 64 * lvl2 ≤ R.locals; omega⟩, hy, hts _ w2⟩ ⟨zc_blind, (fun U hU hW => ⟨rfl, by rw [hU], by rw [hU]; exact hPc, va_K.moved hW.alike hK, hDc.weaken (fun _ _ _ _ => trivial), by rw [hU]; exact zst_go hst hW.alike (fun a h1 h2 => hS.2.1 a h1 h2) hFc, nst_warm hW hns⟩)⟩ rfl rfl hl.1 hst2 (lv_room hcat) hd ⟨by omega, by omega⟩) hS (fun q _ h => hFc q h) hFc (fun v W1 H1 locs1 hp hP1 hD1 _ hk1 hS1 => ?_)
  obtain ⟨hPj, hDj⟩ := va_join hP hD isC isR hC hRw hnR hdis hk1 hFc hP1 hD1
  exact kk v W1 hp H1 locs1 ls hPj hDj hS1 hl
