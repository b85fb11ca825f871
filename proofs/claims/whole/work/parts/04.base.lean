/-- an int, by a whole number; unconditional for + - * -/
def zI (a : Int) : Int32 := Int32.ofInt a
def zL (a : Int) : Int64 := Int64.ofInt a
theorem zI_add (a b : Int) : zI a + zI b = zI (a + b) := (Int32.ofInt_add a b).symm
theorem zI_sub (a b : Int) : zI a - zI b = zI (a - b) := (Int32.ofInt_sub a b).symm
theorem zI_mul (a b : Int) : zI a * zI b = zI (a * b) := (Int32.ofInt_mul a b).symm
theorem zL_add (a b : Int) : zL a + zL b = zL (a + b) := (Int64.ofInt_add a b).symm
theorem zL_mul (a b : Int) : zL a * zL b = zL (a * b) := (Int64.ofInt_mul a b).symm
theorem zI_toInt {a : Int} (h : -2147483648 ≤ a ∧ a < 2147483648) : (zI a).toInt = a := Int32.toInt_ofInt_of_le (by omega) (by omega)
theorem zL_toInt {a : Int} (h : -9223372036854775808 ≤ a ∧ a < 9223372036854775808) : (zL a).toInt = a := Int64.toInt_ofInt_of_le (by omega) (by omega)
theorem zI_of (x : Int32) : x = zI x.toInt := (Int32.ofInt_toInt x).symm
theorem zI_rng (x : Int32) : -2147483648 ≤ x.toInt ∧ x.toInt < 2147483648 := ⟨by have := x.le_toInt; omega, by have := x.toInt_lt; omega⟩
theorem zI_lt {a b : Int} (ha : -2147483648 ≤ a ∧ a < 2147483648) (hb : -2147483648 ≤ b ∧ b < 2147483648) : zI a < zI b ↔ a < b := by rw [Int32.lt_iff_toInt_lt, zI_toInt ha, zI_toInt hb]
theorem zI_le {a b : Int} (ha : -2147483648 ≤ a ∧ a < 2147483648) (hb : -2147483648 ≤ b ∧ b < 2147483648) : zI a ≤ zI b ↔ a ≤ b := by rw [Int32.le_iff_toInt_le, zI_toInt ha, zI_toInt hb]
theorem zI_eq {a b : Int} (ha : -2147483648 ≤ a ∧ a < 2147483648) (hb : -2147483648 ≤ b ∧ b < 2147483648) : zI a = zI b ↔ a = b := by rw [← Int32.toInt_inj, zI_toInt ha, zI_toInt hb]
theorem zI_clamp {a : Int} (h : -2147483648 ≤ a ∧ a < 2147483648) : (zI a).toNatClampNeg = a.toNat := Int32.toNatClampNeg_ofInt_of_le (by omega) (by omega)
theorem zI_z : (0 : Int32) = zI 0 := by decide +kernel
theorem zI_in {a : Int} {n : Nat} (j : Nat) (h : a = (j : Int)) (hj : j < n) (hn : n < 1000) : vp_in (zI a) n := by
  rw [vp_in_iff, zI_toInt (by omega)]; omega
theorem zI_cl {a : Int} (j : Nat) (h : a = (j : Int)) (hj : j < 1000) : (zI a).toNatClampNeg = j := by
  rw [zI_clamp (by omega)]; omega
def zR (r : Nat → Int) : Nat → Int32 := fun k => zI (r k)
/-- a row, changed at a place -/
def pu {α : Type} (f : Nat → α) (k : Nat) (v : α) : Nat → α := fun j => cond (Nat.beq j k) v (f j)
theorem pu_eq {α : Type} (f : Nat → α) (k : Nat) (v : α) : pu f k v k = v := by
  have h : Nat.beq k k = true := Nat.beq_refl k
  simp [pu, h]
theorem pu_ne {α : Type} (f : Nat → α) {k j : Nat} (v : α) (h : j ≠ k) : pu f k v j = f j := by
  have h : Nat.beq j k = false := by
    cases hb : Nat.beq j k with
    | false => rfl
    | true => exact absurd (Nat.eq_of_beq_eq_true hb) h
  simp [pu, h]
theorem pu_at {α : Type} (f : Nat → α) (k : Nat) (v : α) (j : Nat) : pu f k v j = if j = k then v else f j := by
  by_cases h : j = k
  · subst h; rw [pu_eq, if_pos rfl]
  · rw [pu_ne f v h, if_neg h]
theorem pu_pu {α : Type} (f : Nat → α) (k : Nat) (v w : α) : pu (pu f k v) k w = pu f k w := by
  funext j; rw [pu_at, pu_at, pu_at]; split <;> rfl
theorem pu_self {α : Type} (f : Nat → α) (k : Nat) : pu f k (f k) = f := by
  funext j; rw [pu_at]; split
  · next h => rw [h]
  · rfl
theorem zR_upd (r : Nat → Int) (j : Nat) (v : Int) : upd (zR r) j (zI v) = zR (pu r j v) := by
  funext i
  by_cases h : i = j
  · subst h; simp [upd, zR, pu_eq]
  · simp [upd, zR, pu_ne r v h, h]
/-- what is so, as 1 or 0 -/
def b2 (b : Bool) : Int := cond b 1 0
theorem b2_rng (b : Bool) : 0 ≤ b2 b ∧ b2 b ≤ 1 := by cases b <;> decide
/-- the static rows -/
def sL (j : Nat) : Int := match j with | 0 => 115 | 1 => 108 | 2 => 97 | _ => 114
def mT (j : Nat) : Int := match j with | 0 => 1 | 1 => 2 | 2 => 1 | 3 => 1 | _ => 4
def sT (j : Nat) : Int := match j with | 0 => 2 | 1 => -1 | 2 => -3 | _ => 1
def zst (A : Nat → Prop) (U : State) (H : Heap) : Prop :=
  (∃ t, va_Z RX9 "SORT_LETTERS" "[C" (.ref t) A U H ∧ va_T .char t 4 (fun j => .int (zI (sL j))) A U H) ∧
  (∃ t, va_Z RX9 "MOST_TAKEN" "[I" (.ref t) A U H ∧ va_T .int t 5 (fun j => .int (zI (mT j))) A U H) ∧
  (∃ t, va_Z RX9 "SORT_TIRES" "[I" (.ref t) A U H ∧ va_T .int t 4 (fun j => .int (zI (sT j))) A U H)
theorem zst_go {A B : Nat → Prop} {u U : State} {H H1 : Heap} (h : zst A u H) (hvm : u.vm.Alike U.vm) (hq : ∀ a : Nat, a < H.size → ¬ A a → H1[a]? = H[a]?) (hAB : ∀ q, B q → A q) : zst B U H1 := by
  obtain ⟨⟨t1, a1, b1⟩, ⟨t2, a2, b2⟩, ⟨t3, a3, b3⟩⟩ := h
  exact ⟨⟨t1, ((a1.moved hvm).kept hq).narrow hAB, ((b1.moved hvm).kept hq).narrow hAB⟩, ⟨t2, ((a2.moved hvm).kept hq).narrow hAB, ((b2.moved hvm).kept hq).narrow hAB⟩, ⟨t3, ((a3.moved hvm).kept hq).narrow hAB, ((b3.moved hvm).kept hq).narrow hAB⟩⟩
/-- the private members of nest mates -/
def nws : List Cond := [.methodLinkNest RX9 9 yX7_init RX9, .methodLinkNest RX9 18 yX8_init RX9, .methodLinkNest RX9 25 yX3_init RX9, .fieldLinkNest RX8 18 RX9 "SORT_LETTERS" "[C" RX9, .fieldLinkNest RX2 53 RX9 "MOST_TAKEN" "[I" RX9, .fieldLinkNest RX2 71 RX9 "SORT_TIRES" "[I" RX9, .methodLinkNest RX0 67 yX9_refreshed RX9, .methodLinkNest RX1 53 yX9_refreshed RX9]
def nst (U : State) : Prop := ∀ w ∈ nws, va_Nw w U
theorem nst_warm {s U : State} (hW : s.WarmedH U.vm) (h : nst s) : nst U := by
  intro w hw
  have hz := h w hw
  simp only [nws, List.mem_cons, List.not_mem_nil, or_false] at hw
  rcases hw with rfl | rfl | rfl | rfl | rfl | rfl | rfl | rfl
  · exact va_Nw.warmM hW hz
  · exact va_Nw.warmM hW hz
  · exact va_Nw.warmM hW hz
  · exact va_Nw.warmF hW hz
  · exact va_Nw.warmF hW hz
  · exact va_Nw.warmF hW hz
  · exact va_Nw.warmM hW hz
  · exact va_Nw.warmM hW hz
theorem nst_same {s U : State} (hv : s.vm = U.vm) (h : nst s) : nst U := by
  intro w hw
  have hz := h w hw
  have ho : w.onTables = true := by
    simp only [nws, List.mem_cons, List.not_mem_nil, or_false] at hw
    rcases hw with rfl | rfl | rfl | rfl | rfl | rfl | rfl | rfl <;> rfl
  exact va_Nw.same ho hv hz
/-- all that stays the same while a method runs -/
abbrev gT := Program × Launch × Env × Room × State × MethodId × Array Value × List Frame × Method × Code × va_G × ClassId × (Nat → Prop) × (State → Prop)
/-- from here, with this world and this frame, it comes to its end -/
def G (X : gT) (nL k n : Nat) (ws : va_W) (lv : List (Nat × Value)) (pc : Nat) (st : List Value) : Prop := match X with
  | (p, l, e, R, s, m, args, below, meth, c, D, _, A, Q) => ∀ (H : Heap) (locs : List Loc) (ls : Array Slot), va_P D vwCl ws H → va_D A ws → va_S A s.heap H locs → lv_has ls nL lv → W p l e R s m args below meth c H locs k n Q (F0 m pc ls st)
def OKB (X : gT) (l : Launch) (D : va_G) (cI : ClassId) (own : String) (cc : ByteArray) (nL lvl mc ms : Nat) : Prop := match X with
  | (p, l', _, R, s, m, args, _, _, c, D', cI', A, _) => l' = l ∧ D' = D ∧ cI' = cI ∧ p.tables.exec = Jvm.exec ∧ c.code = cc ∧ c.maxLocals = nL ∧ s.vm.findClass own = some m.cls ∧ (∀ w ∈ lw_u, w.before args s = true) ∧ va_K D vwCl [(cI, .int)] s ∧ (∀ q, s.heap.size ≤ q → A q) ∧ lvl ≤ R.frames ∧ 64 * lvl ≤ R.locals ∧ mc ≤ R.cells ∧ ms ≤ R.slots ∧ zst A s s.heap ∧ nst s
def cP (av : List Value) (D : va_G) (cI : ClassId) (sz : Nat) (W0 : va_W) : Array Value → State → Prop := fun v U => v = av.toArray ∧ U.heap.size = sz ∧ va_P D vwCl W0 U.heap ∧ va_K D vwCl [(cI, .int)] U ∧ va_D (fun _ => True) W0 ∧ zst (va_A W0 sz) U U.heap ∧ nst U
def cQ (D : va_G) (cI : ClassId) (A : Nat → Prop) (post : Option Value → va_W → Prop) : Array Value → State → Outcome → State → Prop := fun _ st oc t => (∃ (v : Option Value) (W1 : va_W), oc = .returned v ∧ post v W1 ∧ va_P D vwCl W1 t.heap ∧ va_D A W1) ∧ va_F A st t
def OKR (X : gT) (y : MethodName) (ret : Option FieldType) (mc ms : Nat) (post : Option Value → va_W → Prop) : Prop := match X with
  | (_, _, _, _, s, _, args, below, meth, _, D, cI, A, Q) => Q = MQ below (cQ D cI A post) args s mc ms A ∧ meth.sig.returnType = ret ∧ meth.locks = false ∧ meth.name = y.name
/-- a contract: the method y, called with av in the world W0, returns, and post says of its answer and of the world then -/
def Cn (l : Launch) (D : va_G) (cI : ClassId) (y : MethodName) (cc : ByteArray) (nL : Nat) (ret : Option FieldType) (lvl mc ms : Nat) (av : List Value) (W0 : va_W) (post : Option Value → va_W → Prop) : Prop :=
  ∀ sz : Nat, Met l y (.code y cc nL ret :: lw_u) { frames := lvl, cells := mc, slots := ms, locals := 64 * lvl } (cP av D cI sz W0) (cQ D cI (va_A W0 sz) post) mc ms (va_A W0 sz)
theorem Cn.of {l : Launch} {D : va_G} {cI : ClassId} {y : MethodName} {cc : ByteArray} {nL : Nat} {ret : Option FieldType} {lvl mc ms : Nat} {av : List Value} {W0 : va_W} {post : Option Value → va_W → Prop} (lv : List (Nat × Value)) (hy : plainName y.cls = true) (hn : (lg_sl av).length ≤ nL) (hlv : lv_args 0 av = lv)
    (body : ∀ X, OKB X l D cI y.cls cc nL lvl mc ms → OKR X y ret mc ms post → G X nL 0 0 W0 lv 0 []) : Cn l D cI y cc nL ret lvl mc ms av W0 post := by
  intro sz
  refine Met.ofW (cc := cc) (maxL := nL) (ret := ret) hy rfl ?_
  intro p e s m ags below meth c s₁ B hml hv
  obtain ⟨rfl, hsz, hP, hK, hD0, hst, hns⟩ := hv
  subst hsz
  have hts := atoms_spec (ws := .code y cc nL ret :: lw_u) B.pre
  have hD := hD0.self (sz := s.heap.size)
  have hl := lv_entry av (n := nL) hn
  rw [hlv] at hl
  rw [lg_entry_eq]
  exact body (p, l, e, _, s, m, _, below, meth, c, D, cI, va_A W0 s.heap.size, _) ⟨rfl, rfl, rfl, B.exec, B.bytes, hml, findClass_of_methodNamed B.named, fun w hw => hts w (List.mem_cons_of_mem _ hw), hK, fun q h => Or.inr h, Nat.le_refl _, Nat.le_refl _, Nat.le_refl _, Nat.le_refl _, hst, hns⟩ ⟨rfl, B.returns, B.notSynchronized, (name_of_methodNamed B.named B.method).1⟩ s.heap [] _ hP hD va_S.rf hl
theorem Cn.imp {l : Launch} {D : va_G} {cI : ClassId} {y : MethodName} {cc : ByteArray} {nL : Nat} {ret : Option FieldType} {lvl mc ms : Nat} {av : List Value} {W0 : va_W} {post post2 : Option Value → va_W → Prop} (h : Cn l D cI y cc nL ret lvl mc ms av W0 post) (hi : ∀ v W1, post v W1 → post2 v W1) : Cn l D cI y cc nL ret lvl mc ms av W0 post2 := by
  intro sz p e ha hc hk s m args below hf happ hP _
  obtain ⟨t, o, h1, h2, h3, ⟨⟨v, W1, q1, q2, q3, q4⟩, q5⟩, h5⟩ := h sz p e ha hc hk s m args below hf happ hP trivial
  exact ⟨t, o, h1, h2, h3, ⟨⟨v, W1, q1, hi v W1 q2, q3, q4⟩, q5⟩, h5⟩
theorem zg_iconst {X : gT} {l : Launch} {D : va_G} {cI : ClassId} {own : String} {cc : ByteArray} {nL lvl mc ms k n : Nat} {ws : va_W} {lv : List (Nat × Value)} {pc : Nat} {st : List Value} (hX : OKB X l D cI own cc nL lvl mc ms) {a : Int} (hd : decode cc pc = .ok (.iconst a, 1)) (q : Nat) (hq : pc + 1 = q) (kk : G X nL k n ws lv q (.int (zI a) :: st)) : G X nL k n ws lv pc st := by
  obtain ⟨p, l', e, R, s, m, args, below, meth, c, D', cI', A, Q⟩ := X
  obtain ⟨rfl, rfl, rfl, hx, hb, hml, hown, hts, hK, hA, hfr, hlo, hmc, hms, hst, hns⟩ := hX
  subst hq
  intro H locs ls hP hD hS hl
  exact lv_iconst (v := zI a) hx hb hd rfl (kk H locs ls hP hD hS hl)
theorem zg_bipush {X : gT} {l : Launch} {D : va_G} {cI : ClassId} {own : String} {cc : ByteArray} {nL lvl mc ms k n : Nat} {ws : va_W} {lv : List (Nat × Value)} {pc : Nat} {st : List Value} (hX : OKB X l D cI own cc nL lvl mc ms) {a : Int} (hd : decode cc pc = .ok (.bipush a, 2)) (q : Nat) (hq : pc + 2 = q) (hv : (Int8.ofInt a).toInt32 = zI a) (kk : G X nL k n ws lv q (.int (zI a) :: st)) : G X nL k n ws lv pc st := by
  obtain ⟨p, l', e, R, s, m, args, below, meth, c, D', cI', A, Q⟩ := X
  obtain ⟨rfl, rfl, rfl, hx, hb, hml, hown, hts, hK, hA, hfr, hlo, hmc, hms, hst, hns⟩ := hX
  subst hq
  intro H locs ls hP hD hS hl
  exact lv_bipush (v := zI a) hx hb hd hv (kk H locs ls hP hD hS hl)
theorem zg_ldc {X : gT} {l : Launch} {D : va_G} {cI : ClassId} {own : String} {cc : ByteArray} {nL lvl mc ms k n : Nat} {ws : va_W} {lv : List (Nat × Value)} {pc : Nat} {st : List Value} (hX : OKB X l D cI own cc nL lvl mc ms) {a : Int} {i : Nat} {v : Int32} (hw : Cond.constant own i v ∈ lw_u) (hv : v = zI a) (hd : decode cc pc = .ok (.ldc i, 2)) (q : Nat) (hq : pc + 2 = q) (kk : G X nL k n ws lv q (.int (zI a) :: st)) : G X nL k n ws lv pc st := by
  obtain ⟨p, l', e, R, s, m, args, below, meth, c, D', cI', A, Q⟩ := X
  obtain ⟨rfl, rfl, rfl, hx, hb, hml, hown, hts, hK, hA, hfr, hlo, hmc, hms, hst, hns⟩ := hX
  subst hq; subst hv
  intro H locs ls hP hD hS hl
  exact lv_ldc hx hb hown (hts _ hw) hd (kk H locs ls hP hD hS hl)
theorem zg_ldcw {X : gT} {l : Launch} {D : va_G} {cI : ClassId} {own : String} {cc : ByteArray} {nL lvl mc ms k n : Nat} {ws : va_W} {lv : List (Nat × Value)} {pc : Nat} {st : List Value} (hX : OKB X l D cI own cc nL lvl mc ms) {a : Int} {i : Nat} {v : Int32} (hw : Cond.constant own i v ∈ lw_u) (hv : v = zI a) (hd : decode cc pc = .ok (.ldc_w i, 3)) (q : Nat) (hq : pc + 3 = q) (kk : G X nL k n ws lv q (.int (zI a) :: st)) : G X nL k n ws lv pc st := by
  obtain ⟨p, l', e, R, s, m, args, below, meth, c, D', cI', A, Q⟩ := X
  obtain ⟨rfl, rfl, rfl, hx, hb, hml, hown, hts, hK, hA, hfr, hlo, hmc, hms, hst, hns⟩ := hX
  subst hq; subst hv
  intro H locs ls hP hD hS hl
  exact lv_ldcw hx hb hown (hts _ hw) hd (kk H locs ls hP hD hS hl)
theorem zg_ldc2 {X : gT} {l : Launch} {D : va_G} {cI : ClassId} {own : String} {cc : ByteArray} {nL lvl mc ms k n : Nat} {ws : va_W} {lv : List (Nat × Value)} {pc : Nat} {st : List Value} (hX : OKB X l D cI own cc nL lvl mc ms) {a : Int} {i : Nat} {v : Int64} (hw : Cond.constantLong own i v ∈ lw_u) (hv : v = zL a) (hd : decode cc pc = .ok (.ldc2_w i, 3)) (q : Nat) (hq : pc + 3 = q) (kk : G X nL k n ws lv q (.long (zL a) :: st)) : G X nL k n ws lv pc st := by
  obtain ⟨p, l', e, R, s, m, args, below, meth, c, D', cI', A, Q⟩ := X
  obtain ⟨rfl, rfl, rfl, hx, hb, hml, hown, hts, hK, hA, hfr, hlo, hmc, hms, hst, hns⟩ := hX
  subst hq; subst hv
  intro H locs ls hP hD hS hl
  exact lv_ldc2 hx hb hown (hts _ hw) hd (kk H locs ls hP hD hS hl)
theorem zg_lconst {X : gT} {l : Launch} {D : va_G} {cI : ClassId} {own : String} {cc : ByteArray} {nL lvl mc ms k n : Nat} {ws : va_W} {lv : List (Nat × Value)} {pc : Nat} {st : List Value} (hX : OKB X l D cI own cc nL lvl mc ms) {a : Int} {j : Fin 2} (hv : Int64.ofNat (j : Nat) = zL a) (hd : decode cc pc = .ok (.lconst j, 1)) (q : Nat) (hq : pc + 1 = q) (kk : G X nL k n ws lv q (.long (zL a) :: st)) : G X nL k n ws lv pc st := by
  obtain ⟨p, l', e, R, s, m, args, below, meth, c, D', cI', A, Q⟩ := X
  obtain ⟨rfl, rfl, rfl, hx, hb, hml, hown, hts, hK, hA, hfr, hlo, hmc, hms, hst, hns⟩ := hX
  subst hq
  intro H locs ls hP hD hS hl
  exact lv_lconst hx hb hd hv (kk H locs ls hP hD hS hl)
theorem zg_iload_n {X : gT} {l : Launch} {D : va_G} {cI : ClassId} {own : String} {cc : ByteArray} {nL lvl mc ms k n : Nat} {ws : va_W} {lv : List (Nat × Value)} {pc : Nat} {st : List Value} (hX : OKB X l D cI own cc nL lvl mc ms) {v : Int32} {j : Fin 4} {i : Nat} (z : Nat) (hz : lv[z]? = some (i, .int v)) (hd : decode cc pc = .ok (.iload_n j, 1)) (hi : (j : Nat) = i) (q : Nat) (hq : pc + 1 = q) (kk : G X nL k n ws lv q (.int v :: st)) : G X nL k n ws lv pc st := by
  obtain ⟨p, l', e, R, s, m, args, below, meth, c, D', cI', A, Q⟩ := X
  obtain ⟨rfl, rfl, rfl, hx, hb, hml, hown, hts, hK, hA, hfr, hlo, hmc, hms, hst, hns⟩ := hX
  subst hq
  intro H locs ls hP hD hS hl
  exact lv_iload_n hx hb hd hi (lv_at hl z hz) (kk H locs ls hP hD hS hl)
theorem zg_iload {X : gT} {l : Launch} {D : va_G} {cI : ClassId} {own : String} {cc : ByteArray} {nL lvl mc ms k n : Nat} {ws : va_W} {lv : List (Nat × Value)} {pc : Nat} {st : List Value} (hX : OKB X l D cI own cc nL lvl mc ms) {v : Int32} {i : Nat} (z : Nat) (hz : lv[z]? = some (i, .int v)) (hd : decode cc pc = .ok (.iload i, 2)) (q : Nat) (hq : pc + 2 = q) (kk : G X nL k n ws lv q (.int v :: st)) : G X nL k n ws lv pc st := by
  obtain ⟨p, l', e, R, s, m, args, below, meth, c, D', cI', A, Q⟩ := X
  obtain ⟨rfl, rfl, rfl, hx, hb, hml, hown, hts, hK, hA, hfr, hlo, hmc, hms, hst, hns⟩ := hX
  subst hq
  intro H locs ls hP hD hS hl
  exact lv_iload hx hb hd (lv_at hl z hz) (kk H locs ls hP hD hS hl)
theorem zg_aload_n {X : gT} {l : Launch} {D : va_G} {cI : ClassId} {own : String} {cc : ByteArray} {nL lvl mc ms k n : Nat} {ws : va_W} {lv : List (Nat × Value)} {pc : Nat} {st : List Value} (hX : OKB X l D cI own cc nL lvl mc ms) {v : Nat} {j : Fin 4} {i : Nat} (z : Nat) (hz : lv[z]? = some (i, .ref v)) (hd : decode cc pc = .ok (.aload_n j, 1)) (hi : (j : Nat) = i) (q : Nat) (hq : pc + 1 = q) (kk : G X nL k n ws lv q (.ref v :: st)) : G X nL k n ws lv pc st := by
  obtain ⟨p, l', e, R, s, m, args, below, meth, c, D', cI', A, Q⟩ := X
  obtain ⟨rfl, rfl, rfl, hx, hb, hml, hown, hts, hK, hA, hfr, hlo, hmc, hms, hst, hns⟩ := hX
  subst hq
  intro H locs ls hP hD hS hl
  exact lv_aload_n hx hb hd hi (lv_at hl z hz) (kk H locs ls hP hD hS hl)
theorem zg_aload {X : gT} {l : Launch} {D : va_G} {cI : ClassId} {own : String} {cc : ByteArray} {nL lvl mc ms k n : Nat} {ws : va_W} {lv : List (Nat × Value)} {pc : Nat} {st : List Value} (hX : OKB X l D cI own cc nL lvl mc ms) {v : Nat} {i : Nat} (z : Nat) (hz : lv[z]? = some (i, .ref v)) (hd : decode cc pc = .ok (.aload i, 2)) (q : Nat) (hq : pc + 2 = q) (kk : G X nL k n ws lv q (.ref v :: st)) : G X nL k n ws lv pc st := by
  obtain ⟨p, l', e, R, s, m, args, below, meth, c, D', cI', A, Q⟩ := X
  obtain ⟨rfl, rfl, rfl, hx, hb, hml, hown, hts, hK, hA, hfr, hlo, hmc, hms, hst, hns⟩ := hX
  subst hq
  intro H locs ls hP hD hS hl
  exact lv_aload hx hb hd (lv_at hl z hz) (kk H locs ls hP hD hS hl)
theorem zg_lload_n {X : gT} {l : Launch} {D : va_G} {cI : ClassId} {own : String} {cc : ByteArray} {nL lvl mc ms k n : Nat} {ws : va_W} {lv : List (Nat × Value)} {pc : Nat} {st : List Value} (hX : OKB X l D cI own cc nL lvl mc ms) {v : Int64} {j : Fin 4} {i : Nat} (z : Nat) (hz : lv[z]? = some (i, .long v)) (hd : decode cc pc = .ok (.lload_n j, 1)) (hi : (j : Nat) = i) (q : Nat) (hq : pc + 1 = q) (kk : G X nL k n ws lv q (.long v :: st)) : G X nL k n ws lv pc st := by
  obtain ⟨p, l', e, R, s, m, args, below, meth, c, D', cI', A, Q⟩ := X
  obtain ⟨rfl, rfl, rfl, hx, hb, hml, hown, hts, hK, hA, hfr, hlo, hmc, hms, hst, hns⟩ := hX
  subst hq
  intro H locs ls hP hD hS hl
  exact lv_lload_n hx hb hd hi (lv_at hl z hz) (kk H locs ls hP hD hS hl)
theorem zg_lload {X : gT} {l : Launch} {D : va_G} {cI : ClassId} {own : String} {cc : ByteArray} {nL lvl mc ms k n : Nat} {ws : va_W} {lv : List (Nat × Value)} {pc : Nat} {st : List Value} (hX : OKB X l D cI own cc nL lvl mc ms) {v : Int64} {i : Nat} (z : Nat) (hz : lv[z]? = some (i, .long v)) (hd : decode cc pc = .ok (.lload i, 2)) (q : Nat) (hq : pc + 2 = q) (kk : G X nL k n ws lv q (.long v :: st)) : G X nL k n ws lv pc st := by
  obtain ⟨p, l', e, R, s, m, args, below, meth, c, D', cI', A, Q⟩ := X
  obtain ⟨rfl, rfl, rfl, hx, hb, hml, hown, hts, hK, hA, hfr, hlo, hmc, hms, hst, hns⟩ := hX
  subst hq
  intro H locs ls hP hD hS hl
  exact lv_lload hx hb hd (lv_at hl z hz) (kk H locs ls hP hD hS hl)
theorem zg_istore_n {X : gT} {l : Launch} {D : va_G} {cI : ClassId} {own : String} {cc : ByteArray} {nL lvl mc ms k n : Nat} {ws : va_W} {lv : List (Nat × Value)} {pc : Nat} {st : List Value} (hX : OKB X l D cI own cc nL lvl mc ms) {v : Int32} {j : Fin 4} {i : Nat} (lv2 : List (Nat × Value)) (hd : decode cc pc = .ok (.istore_n j, 1)) (hi : (j : Nat) = i) (hn : i < nL) (h2 : (i, (.int v : Value)) :: lv.filter (fun z => !(z.1 == i) && !(z.1 + 1 == i && z.2.category == 2)) = lv2) (q : Nat) (hq : pc + 1 = q) (kk : G X nL k n ws lv2 q st) : G X nL k n ws lv pc (.int v :: st) := by
  obtain ⟨p, l', e, R, s, m, args, below, meth, c, D', cI', A, Q⟩ := X
  obtain ⟨rfl, rfl, rfl, hx, hb, hml, hown, hts, hK, hA, hfr, hlo, hmc, hms, hst, hns⟩ := hX
  subst hq
  intro H locs ls hP hD hS hl
  exact lv_istore_n hx hb hd hi hl hn h2 (fun ls hl => kk H locs ls hP hD hS hl)
theorem zg_istore {X : gT} {l : Launch} {D : va_G} {cI : ClassId} {own : String} {cc : ByteArray} {nL lvl mc ms k n : Nat} {ws : va_W} {lv : List (Nat × Value)} {pc : Nat} {st : List Value} (hX : OKB X l D cI own cc nL lvl mc ms) {v : Int32} {i : Nat} (lv2 : List (Nat × Value)) (hd : decode cc pc = .ok (.istore i, 2)) (hn : i < nL) (h2 : (i, (.int v : Value)) :: lv.filter (fun z => !(z.1 == i) && !(z.1 + 1 == i && z.2.category == 2)) = lv2) (q : Nat) (hq : pc + 2 = q) (kk : G X nL k n ws lv2 q st) : G X nL k n ws lv pc (.int v :: st) := by
  obtain ⟨p, l', e, R, s, m, args, below, meth, c, D', cI', A, Q⟩ := X
  obtain ⟨rfl, rfl, rfl, hx, hb, hml, hown, hts, hK, hA, hfr, hlo, hmc, hms, hst, hns⟩ := hX
  subst hq
  intro H locs ls hP hD hS hl
  exact lv_istore hx hb hd hl hn h2 (fun ls hl => kk H locs ls hP hD hS hl)
theorem zg_astore_n {X : gT} {l : Launch} {D : va_G} {cI : ClassId} {own : String} {cc : ByteArray} {nL lvl mc ms k n : Nat} {ws : va_W} {lv : List (Nat × Value)} {pc : Nat} {st : List Value} (hX : OKB X l D cI own cc nL lvl mc ms) {v : Nat} {j : Fin 4} {i : Nat} (lv2 : List (Nat × Value)) (hd : decode cc pc = .ok (.astore_n j, 1)) (hi : (j : Nat) = i) (hn : i < nL) (h2 : (i, (.ref v : Value)) :: lv.filter (fun z => !(z.1 == i) && !(z.1 + 1 == i && z.2.category == 2)) = lv2) (q : Nat) (hq : pc + 1 = q) (kk : G X nL k n ws lv2 q st) : G X nL k n ws lv pc (.ref v :: st) := by
  obtain ⟨p, l', e, R, s, m, args, below, meth, c, D', cI', A, Q⟩ := X
  obtain ⟨rfl, rfl, rfl, hx, hb, hml, hown, hts, hK, hA, hfr, hlo, hmc, hms, hst, hns⟩ := hX
  subst hq
  intro H locs ls hP hD hS hl
  exact lv_astore_n hx hb hd hi hl hn h2 (fun ls hl => kk H locs ls hP hD hS hl)
theorem zg_astore {X : gT} {l : Launch} {D : va_G} {cI : ClassId} {own : String} {cc : ByteArray} {nL lvl mc ms k n : Nat} {ws : va_W} {lv : List (Nat × Value)} {pc : Nat} {st : List Value} (hX : OKB X l D cI own cc nL lvl mc ms) {v : Nat} {i : Nat} (lv2 : List (Nat × Value)) (hd : decode cc pc = .ok (.astore i, 2)) (hn : i < nL) (h2 : (i, (.ref v : Value)) :: lv.filter (fun z => !(z.1 == i) && !(z.1 + 1 == i && z.2.category == 2)) = lv2) (q : Nat) (hq : pc + 2 = q) (kk : G X nL k n ws lv2 q st) : G X nL k n ws lv pc (.ref v :: st) := by
  obtain ⟨p, l', e, R, s, m, args, below, meth, c, D', cI', A, Q⟩ := X
  obtain ⟨rfl, rfl, rfl, hx, hb, hml, hown, hts, hK, hA, hfr, hlo, hmc, hms, hst, hns⟩ := hX
  subst hq
  intro H locs ls hP hD hS hl
  exact lv_astore hx hb hd hl hn h2 (fun ls hl => kk H locs ls hP hD hS hl)
theorem zg_lstore_n {X : gT} {l : Launch} {D : va_G} {cI : ClassId} {own : String} {cc : ByteArray} {nL lvl mc ms k n : Nat} {ws : va_W} {lv : List (Nat × Value)} {pc : Nat} {st : List Value} (hX : OKB X l D cI own cc nL lvl mc ms) {v : Int64} {j : Fin 4} {i : Nat} (lv2 : List (Nat × Value)) (hd : decode cc pc = .ok (.lstore_n j, 1)) (hi : (j : Nat) = i) (hn : i + 1 < nL) (h2 : (i, (.long v : Value)) :: lv.filter (fun z => !(z.1 == i) && (!(z.1 == i + 1) && !(z.1 + 1 == i && z.2.category == 2))) = lv2) (q : Nat) (hq : pc + 1 = q) (kk : G X nL k n ws lv2 q st) : G X nL k n ws lv pc (.long v :: st) := by
  obtain ⟨p, l', e, R, s, m, args, below, meth, c, D', cI', A, Q⟩ := X
  obtain ⟨rfl, rfl, rfl, hx, hb, hml, hown, hts, hK, hA, hfr, hlo, hmc, hms, hst, hns⟩ := hX
  subst hq
  intro H locs ls hP hD hS hl
  exact lv_lstore_n hx hb hd hi hl hn h2 (fun ls hl => kk H locs ls hP hD hS hl)
theorem zg_lstore {X : gT} {l : Launch} {D : va_G} {cI : ClassId} {own : String} {cc : ByteArray} {nL lvl mc ms k n : Nat} {ws : va_W} {lv : List (Nat × Value)} {pc : Nat} {st : List Value} (hX : OKB X l D cI own cc nL lvl mc ms) {v : Int64} {i : Nat} (lv2 : List (Nat × Value)) (hd : decode cc pc = .ok (.lstore i, 2)) (hn : i + 1 < nL) (h2 : (i, (.long v : Value)) :: lv.filter (fun z => !(z.1 == i) && (!(z.1 == i + 1) && !(z.1 + 1 == i && z.2.category == 2))) = lv2) (q : Nat) (hq : pc + 2 = q) (kk : G X nL k n ws lv2 q st) : G X nL k n ws lv pc (.long v :: st) := by
  obtain ⟨p, l', e, R, s, m, args, below, meth, c, D', cI', A, Q⟩ := X
  obtain ⟨rfl, rfl, rfl, hx, hb, hml, hown, hts, hK, hA, hfr, hlo, hmc, hms, hst, hns⟩ := hX
  subst hq
  intro H locs ls hP hD hS hl
  exact lv_lstore hx hb hd hl hn h2 (fun ls hl => kk H locs ls hP hD hS hl)
theorem zg_iinc {X : gT} {l : Launch} {D : va_G} {cI : ClassId} {own : String} {cc : ByteArray} {nL lvl mc ms k n : Nat} {ws : va_W} {lv : List (Nat × Value)} {pc : Nat} {st : List Value} (hX : OKB X l D cI own cc nL lvl mc ms) {a b : Int} {i : Nat} (lv2 : List (Nat × Value)) (z : Nat) (hz : lv[z]? = some (i, .int (zI a))) (hd : decode cc pc = .ok (.iinc i b, 3)) (hn : i < nL) (h2 : (i, Value.int (zI (a + b))) :: lv.filter (fun z => !(z.1 == i) && !(z.1 + 1 == i && z.2.category == 2)) = lv2) (q : Nat) (hq : pc + 3 = q) (kk : G X nL k n ws lv2 q st) : G X nL k n ws lv pc st := by
  obtain ⟨p, l', e, R, s, m, args, below, meth, c, D', cI', A, Q⟩ := X
  obtain ⟨rfl, rfl, rfl, hx, hb, hml, hown, hts, hK, hA, hfr, hlo, hmc, hms, hst, hns⟩ := hX
  subst hq
  intro H locs ls hP hD hS hl
  exact lv_iinc hx hb hd hl hz (zI_add a b) hn h2 (fun ls hl => kk H locs ls hP hD hS hl)
theorem zg_lv {X : gT} {nL k n : Nat} {ws : va_W} {lv : List (Nat × Value)} {pc : Nat} {st : List Value} (lv2 : List (Nat × Value)) (zs : List Nat) (h : lv_pick lv zs = lv2) (kk : G X nL k n ws lv2 pc st) : G X nL k n ws lv pc st := by
  obtain ⟨p, l', e, R, s, m, args, below, meth, c, D', cI', A, Q⟩ := X
  exact fun H locs ls hP hD hS hl => kk H locs ls hP hD hS (lv_sub hl zs h)
theorem zg_iadd {X : gT} {l : Launch} {D : va_G} {cI : ClassId} {own : String} {cc : ByteArray} {nL lvl mc ms k n : Nat} {ws : va_W} {lv : List (Nat × Value)} {pc : Nat} {st : List Value} (hX : OKB X l D cI own cc nL lvl mc ms) {a b : Int} (hd : decode cc pc = .ok (.iadd, 1)) (q : Nat) (hq : pc + 1 = q) (kk : G X nL k n ws lv q (.int (zI (a + b)) :: st)) : G X nL k n ws lv pc (.int (zI b) :: .int (zI a) :: st) := by
  obtain ⟨p, l', e, R, s, m, args, below, meth, c, D', cI', A, Q⟩ := X
  obtain ⟨rfl, rfl, rfl, hx, hb, hml, hown, hts, hK, hA, hfr, hlo, hmc, hms, hst, hns⟩ := hX
  subst hq
  intro H locs ls hP hD hS hl
  refine lv_iadd hx hb hd ?_
  rw [zI_add]
  exact kk H locs ls hP hD hS hl
theorem zg_isub {X : gT} {l : Launch} {D : va_G} {cI : ClassId} {own : String} {cc : ByteArray} {nL lvl mc ms k n : Nat} {ws : va_W} {lv : List (Nat × Value)} {pc : Nat} {st : List Value} (hX : OKB X l D cI own cc nL lvl mc ms) {a b : Int} (hd : decode cc pc = .ok (.isub, 1)) (q : Nat) (hq : pc + 1 = q) (kk : G X nL k n ws lv q (.int (zI (a - b)) :: st)) : G X nL k n ws lv pc (.int (zI b) :: .int (zI a) :: st) := by
  obtain ⟨p, l', e, R, s, m, args, below, meth, c, D', cI', A, Q⟩ := X
  obtain ⟨rfl, rfl, rfl, hx, hb, hml, hown, hts, hK, hA, hfr, hlo, hmc, hms, hst, hns⟩ := hX
  subst hq
  intro H locs ls hP hD hS hl
  refine lv_isub hx hb hd ?_
  rw [zI_sub]
  exact kk H locs ls hP hD hS hl
theorem zg_imul {X : gT} {l : Launch} {D : va_G} {cI : ClassId} {own : String} {cc : ByteArray} {nL lvl mc ms k n : Nat} {ws : va_W} {lv : List (Nat × Value)} {pc : Nat} {st : List Value} (hX : OKB X l D cI own cc nL lvl mc ms) {a b : Int} (hd : decode cc pc = .ok (.imul, 1)) (q : Nat) (hq : pc + 1 = q) (kk : G X nL k n ws lv q (.int (zI (a * b)) :: st)) : G X nL k n ws lv pc (.int (zI b) :: .int (zI a) :: st) := by
  obtain ⟨p, l', e, R, s, m, args, below, meth, c, D', cI', A, Q⟩ := X
  obtain ⟨rfl, rfl, rfl, hx, hb, hml, hown, hts, hK, hA, hfr, hlo, hmc, hms, hst, hns⟩ := hX
  subst hq
  intro H locs ls hP hD hS hl
  refine lv_imul hx hb hd ?_
  rw [zI_mul]
  exact kk H locs ls hP hD hS hl
theorem zg_ladd {X : gT} {l : Launch} {D : va_G} {cI : ClassId} {own : String} {cc : ByteArray} {nL lvl mc ms k n : Nat} {ws : va_W} {lv : List (Nat × Value)} {pc : Nat} {st : List Value} (hX : OKB X l D cI own cc nL lvl mc ms) {a b : Int} (hd : decode cc pc = .ok (.ladd, 1)) (q : Nat) (hq : pc + 1 = q) (kk : G X nL k n ws lv q (.long (zL (a + b)) :: st)) : G X nL k n ws lv pc (.long (zL b) :: .long (zL a) :: st) := by
  obtain ⟨p, l', e, R, s, m, args, below, meth, c, D', cI', A, Q⟩ := X
  obtain ⟨rfl, rfl, rfl, hx, hb, hml, hown, hts, hK, hA, hfr, hlo, hmc, hms, hst, hns⟩ := hX
  subst hq
  intro H locs ls hP hD hS hl
  refine lv_ladd hx hb hd ?_
  rw [zL_add]
  exact kk H locs ls hP hD hS hl
theorem zg_lmul {X : gT} {l : Launch} {D : va_G} {cI : ClassId} {own : String} {cc : ByteArray} {nL lvl mc ms k n : Nat} {ws : va_W} {lv : List (Nat × Value)} {pc : Nat} {st : List Value} (hX : OKB X l D cI own cc nL lvl mc ms) {a b : Int} (hd : decode cc pc = .ok (.lmul, 1)) (q : Nat) (hq : pc + 1 = q) (kk : G X nL k n ws lv q (.long (zL (a * b)) :: st)) : G X nL k n ws lv pc (.long (zL b) :: .long (zL a) :: st) := by
  obtain ⟨p, l', e, R, s, m, args, below, meth, c, D', cI', A, Q⟩ := X
  obtain ⟨rfl, rfl, rfl, hx, hb, hml, hown, hts, hK, hA, hfr, hlo, hmc, hms, hst, hns⟩ := hX
  subst hq
  intro H locs ls hP hD hS hl
  refine lv_lmul hx hb hd ?_
  rw [zL_mul]
  exact kk H locs ls hP hD hS hl
theorem zg_iand {X : gT} {l : Launch} {D : va_G} {cI : ClassId} {own : String} {cc : ByteArray} {nL lvl mc ms k n : Nat} {ws : va_W} {lv : List (Nat × Value)} {pc : Nat} {st : List Value} (hX : OKB X l D cI own cc nL lvl mc ms) {x y : Int32} (a : Int) (hv : x &&& y = zI a) (hd : decode cc pc = .ok (.iand, 1)) (q : Nat) (hq : pc + 1 = q) (kk : G X nL k n ws lv q (.int (zI a) :: st)) : G X nL k n ws lv pc (.int y :: .int x :: st) := by
  obtain ⟨p, l', e, R, s, m, args, below, meth, c, D', cI', A, Q⟩ := X
  obtain ⟨rfl, rfl, rfl, hx, hb, hml, hown, hts, hK, hA, hfr, hlo, hmc, hms, hst, hns⟩ := hX
  subst hq
  intro H locs ls hP hD hS hl
  refine lv_iand hx hb hd ?_
  rw [hv]
  exact kk H locs ls hP hD hS hl
theorem zg_ior {X : gT} {l : Launch} {D : va_G} {cI : ClassId} {own : String} {cc : ByteArray} {nL lvl mc ms k n : Nat} {ws : va_W} {lv : List (Nat × Value)} {pc : Nat} {st : List Value} (hX : OKB X l D cI own cc nL lvl mc ms) {x y : Int32} (a : Int) (hv : x ||| y = zI a) (hd : decode cc pc = .ok (.ior, 1)) (q : Nat) (hq : pc + 1 = q) (kk : G X nL k n ws lv q (.int (zI a) :: st)) : G X nL k n ws lv pc (.int y :: .int x :: st) := by
  obtain ⟨p, l', e, R, s, m, args, below, meth, c, D', cI', A, Q⟩ := X
  obtain ⟨rfl, rfl, rfl, hx, hb, hml, hown, hts, hK, hA, hfr, hlo, hmc, hms, hst, hns⟩ := hX
  subst hq
  intro H locs ls hP hD hS hl
  refine lv_ior hx hb hd ?_
  rw [hv]
  exact kk H locs ls hP hD hS hl
theorem zg_ixor {X : gT} {l : Launch} {D : va_G} {cI : ClassId} {own : String} {cc : ByteArray} {nL lvl mc ms k n : Nat} {ws : va_W} {lv : List (Nat × Value)} {pc : Nat} {st : List Value} (hX : OKB X l D cI own cc nL lvl mc ms) {x y : Int32} (a : Int) (hv : x ^^^ y = zI a) (hd : decode cc pc = .ok (.ixor, 1)) (q : Nat) (hq : pc + 1 = q) (kk : G X nL k n ws lv q (.int (zI a) :: st)) : G X nL k n ws lv pc (.int y :: .int x :: st) := by
  obtain ⟨p, l', e, R, s, m, args, below, meth, c, D', cI', A, Q⟩ := X
  obtain ⟨rfl, rfl, rfl, hx, hb, hml, hown, hts, hK, hA, hfr, hlo, hmc, hms, hst, hns⟩ := hX
  subst hq
  intro H locs ls hP hD hS hl
  refine lv_ixor hx hb hd ?_
  rw [hv]
  exact kk H locs ls hP hD hS hl
theorem zg_idiv {X : gT} {l : Launch} {D : va_G} {cI : ClassId} {own : String} {cc : ByteArray} {nL lvl mc ms k n : Nat} {ws : va_W} {lv : List (Nat × Value)} {pc : Nat} {st : List Value} (hX : OKB X l D cI own cc nL lvl mc ms) {x y : Int32} (a : Int) (hne : ¬ y = 0) (hv : x / y = zI a) (hd : decode cc pc = .ok (.idiv, 1)) (q : Nat) (hq : pc + 1 = q) (kk : G X nL k n ws lv q (.int (zI a) :: st)) : G X nL k n ws lv pc (.int y :: .int x :: st) := by
  obtain ⟨p, l', e, R, s, m, args, below, meth, c, D', cI', A, Q⟩ := X
  obtain ⟨rfl, rfl, rfl, hx, hb, hml, hown, hts, hK, hA, hfr, hlo, hmc, hms, hst, hns⟩ := hX
  subst hq
  intro H locs ls hP hD hS hl
  refine lv_idiv hx hb hd hne ?_
  rw [hv]
  exact kk H locs ls hP hD hS hl
theorem zg_irem {X : gT} {l : Launch} {D : va_G} {cI : ClassId} {own : String} {cc : ByteArray} {nL lvl mc ms k n : Nat} {ws : va_W} {lv : List (Nat × Value)} {pc : Nat} {st : List Value} (hX : OKB X l D cI own cc nL lvl mc ms) {x y : Int32} (a : Int) (hne : ¬ y = 0) (hv : x - x / y * y = zI a) (hd : decode cc pc = .ok (.irem, 1)) (q : Nat) (hq : pc + 1 = q) (kk : G X nL k n ws lv q (.int (zI a) :: st)) : G X nL k n ws lv pc (.int y :: .int x :: st) := by
  obtain ⟨p, l', e, R, s, m, args, below, meth, c, D', cI', A, Q⟩ := X
  obtain ⟨rfl, rfl, rfl, hx, hb, hml, hown, hts, hK, hA, hfr, hlo, hmc, hms, hst, hns⟩ := hX
  subst hq
  intro H locs ls hP hD hS hl
  refine lv_irem hx hb hd hne ?_
  rw [hv]
  exact kk H locs ls hP hD hS hl
theorem zg_ishl {X : gT} {l : Launch} {D : va_G} {cI : ClassId} {own : String} {cc : ByteArray} {nL lvl mc ms k n : Nat} {ws : va_W} {lv : List (Nat × Value)} {pc : Nat} {st : List Value} (hX : OKB X l D cI own cc nL lvl mc ms) {x y : Int32} (a : Int) (hv : x <<< (y &&& 31) = zI a) (hd : decode cc pc = .ok (.ishl, 1)) (q : Nat) (hq : pc + 1 = q) (kk : G X nL k n ws lv q (.int (zI a) :: st)) : G X nL k n ws lv pc (.int y :: .int x :: st) := by
  obtain ⟨p, l', e, R, s, m, args, below, meth, c, D', cI', A, Q⟩ := X
  obtain ⟨rfl, rfl, rfl, hx, hb, hml, hown, hts, hK, hA, hfr, hlo, hmc, hms, hst, hns⟩ := hX
  subst hq
  intro H locs ls hP hD hS hl
  refine lv_ishl hx hb hd ?_
  rw [hv]
  exact kk H locs ls hP hD hS hl
theorem zg_ishr {X : gT} {l : Launch} {D : va_G} {cI : ClassId} {own : String} {cc : ByteArray} {nL lvl mc ms k n : Nat} {ws : va_W} {lv : List (Nat × Value)} {pc : Nat} {st : List Value} (hX : OKB X l D cI own cc nL lvl mc ms) {x y : Int32} (a : Int) (hv : x >>> (y &&& 31) = zI a) (hd : decode cc pc = .ok (.ishr, 1)) (q : Nat) (hq : pc + 1 = q) (kk : G X nL k n ws lv q (.int (zI a) :: st)) : G X nL k n ws lv pc (.int y :: .int x :: st) := by
  obtain ⟨p, l', e, R, s, m, args, below, meth, c, D', cI', A, Q⟩ := X
  obtain ⟨rfl, rfl, rfl, hx, hb, hml, hown, hts, hK, hA, hfr, hlo, hmc, hms, hst, hns⟩ := hX
  subst hq
  intro H locs ls hP hD hS hl
  refine lv_ishr hx hb hd ?_
  rw [hv]
  exact kk H locs ls hP hD hS hl
theorem zg_iushr {X : gT} {l : Launch} {D : va_G} {cI : ClassId} {own : String} {cc : ByteArray} {nL lvl mc ms k n : Nat} {ws : va_W} {lv : List (Nat × Value)} {pc : Nat} {st : List Value} (hX : OKB X l D cI own cc nL lvl mc ms) {x y : Int32} (a : Int) (hv : (x.toUInt32 >>> (y.toUInt32 &&& Int32.toUInt32 31)).toInt32 = zI a) (hd : decode cc pc = .ok (.iushr, 1)) (q : Nat) (hq : pc + 1 = q) (kk : G X nL k n ws lv q (.int (zI a) :: st)) : G X nL k n ws lv pc (.int y :: .int x :: st) := by
  obtain ⟨p, l', e, R, s, m, args, below, meth, c, D', cI', A, Q⟩ := X
  obtain ⟨rfl, rfl, rfl, hx, hb, hml, hown, hts, hK, hA, hfr, hlo, hmc, hms, hst, hns⟩ := hX
  subst hq
  intro H locs ls hP hD hS hl
  exact lv_iushr hx hb hd hv (kk H locs ls hP hD hS hl)
theorem zg_land {X : gT} {l : Launch} {D : va_G} {cI : ClassId} {own : String} {cc : ByteArray} {nL lvl mc ms k n : Nat} {ws : va_W} {lv : List (Nat × Value)} {pc : Nat} {st : List Value} (hX : OKB X l D cI own cc nL lvl mc ms) {x y : Int64} (a : Int) (hv : x &&& y = zL a) (hd : decode cc pc = .ok (.land, 1)) (q : Nat) (hq : pc + 1 = q) (kk : G X nL k n ws lv q (.long (zL a) :: st)) : G X nL k n ws lv pc (.long y :: .long x :: st) := by
  obtain ⟨p, l', e, R, s, m, args, below, meth, c, D', cI', A, Q⟩ := X
  obtain ⟨rfl, rfl, rfl, hx, hb, hml, hown, hts, hK, hA, hfr, hlo, hmc, hms, hst, hns⟩ := hX
  subst hq
  intro H locs ls hP hD hS hl
  refine lv_land hx hb hd ?_
  rw [hv]
  exact kk H locs ls hP hD hS hl
theorem zg_i2l {X : gT} {l : Launch} {D : va_G} {cI : ClassId} {own : String} {cc : ByteArray} {nL lvl mc ms k n : Nat} {ws : va_W} {lv : List (Nat × Value)} {pc : Nat} {st : List Value} (hX : OKB X l D cI own cc nL lvl mc ms) {a : Int} (ha : -2147483648 ≤ a ∧ a < 2147483648) (hd : decode cc pc = .ok (.i2l, 1)) (q : Nat) (hq : pc + 1 = q) (kk : G X nL k n ws lv q (.long (zL a) :: st)) : G X nL k n ws lv pc (.int (zI a) :: st) := by
  obtain ⟨p, l', e, R, s, m, args, below, meth, c, D', cI', A, Q⟩ := X
  obtain ⟨rfl, rfl, rfl, hx, hb, hml, hown, hts, hK, hA, hfr, hlo, hmc, hms, hst, hns⟩ := hX
  subst hq
  intro H locs ls hP hD hS hl
  exact lv_i2l (v := zL a) hx hb hd (Int32.toInt64_ofInt (by rw [show Int32.minValue.toInt = -2147483648 by decide +kernel]; exact ha.1) (by rw [show Int32.maxValue.toInt = 2147483647 by decide +kernel]; omega)) (kk H locs ls hP hD hS hl)
theorem zg_l2i {X : gT} {l : Launch} {D : va_G} {cI : ClassId} {own : String} {cc : ByteArray} {nL lvl mc ms k n : Nat} {ws : va_W} {lv : List (Nat × Value)} {pc : Nat} {st : List Value} (hX : OKB X l D cI own cc nL lvl mc ms) {a : Int} (hd : decode cc pc = .ok (.l2i, 1)) (q : Nat) (hq : pc + 1 = q) (kk : G X nL k n ws lv q (.int (zI a) :: st)) : G X nL k n ws lv pc (.long (zL a) :: st) := by
  obtain ⟨p, l', e, R, s, m, args, below, meth, c, D', cI', A, Q⟩ := X
  obtain ⟨rfl, rfl, rfl, hx, hb, hml, hown, hts, hK, hA, hfr, hlo, hmc, hms, hst, hns⟩ := hX
  subst hq
  intro H locs ls hP hD hS hl
  exact lv_l2i (v := zI a) hx hb hd Int64.toInt32_ofInt (kk H locs ls hP hD hS hl)
theorem zg_lcmp {X : gT} {l : Launch} {D : va_G} {cI : ClassId} {own : String} {cc : ByteArray} {nL lvl mc ms k n : Nat} {ws : va_W} {lv : List (Nat × Value)} {pc : Nat} {st : List Value} (hX : OKB X l D cI own cc nL lvl mc ms) {a b : Int} (ha : -9223372036854775808 ≤ a ∧ a < 9223372036854775808) (hb2 : -9223372036854775808 ≤ b ∧ b < 9223372036854775808) (hd : decode cc pc = .ok (.lcmp, 1)) (q : Nat) (hq : pc + 1 = q) (kk : G X nL k n ws lv q (.int (zI (if a < b then -1 else if a = b then 0 else 1)) :: st)) : G X nL k n ws lv pc (.long (zL b) :: .long (zL a) :: st) := by
  obtain ⟨p, l', e, R, s, m, args, below, meth, c, D', cI', A, Q⟩ := X
  obtain ⟨rfl, rfl, rfl, hx, hb, hml, hown, hts, hK, hA, hfr, hlo, hmc, hms, hst, hns⟩ := hX
  subst hq
  have hc : lg_cmp (zL a) (zL b) = zI (if a < b then -1 else if a = b then 0 else 1) := by
    unfold lg_cmp
    simp only [gt_iff_lt, Int64.lt_iff_toInt_lt, ← Int64.toInt_inj, zL_toInt ha, zL_toInt hb2]
    rcases Int.lt_trichotomy a b with h | h | h
    · rw [if_neg (by omega), if_neg (by omega), if_pos h]; decide
    · subst h; simp; decide
    · rw [if_pos h, if_neg (by omega), if_neg (by omega)]; decide
  intro H locs ls hP hD hS hl
  refine W.lcmp hx hb hd ?_
  rw [hc]
  exact kk H locs ls hP hD hS hl
theorem zg_dup {X : gT} {l : Launch} {D : va_G} {cI : ClassId} {own : String} {cc : ByteArray} {nL lvl mc ms k n : Nat} {ws : va_W} {lv : List (Nat × Value)} {pc : Nat} {st : List Value} (hX : OKB X l D cI own cc nL lvl mc ms) {v : Value} (hc : v.category = 1) (hd : decode cc pc = .ok (.dup, 1)) (q : Nat) (hq : pc + 1 = q) (kk : G X nL k n ws lv q (v :: v :: st)) : G X nL k n ws lv pc (v :: st) := by
  obtain ⟨p, l', e, R, s, m, args, below, meth, c, D', cI', A, Q⟩ := X
  obtain ⟨rfl, rfl, rfl, hx, hb, hml, hown, hts, hK, hA, hfr, hlo, hmc, hms, hst, hns⟩ := hX
  subst hq
  intro H locs ls hP hD hS hl
  exact lv_dup hx hb hd hc (kk H locs ls hP hD hS hl)
theorem zg_dup2 {X : gT} {l : Launch} {D : va_G} {cI : ClassId} {own : String} {cc : ByteArray} {nL lvl mc ms k n : Nat} {ws : va_W} {lv : List (Nat × Value)} {pc : Nat} {st : List Value} (hX : OKB X l D cI own cc nL lvl mc ms) {v w : Value} (hc : v.category = 1) (hc2 : w.category = 1) (hd : decode cc pc = .ok (.dup2, 1)) (q : Nat) (hq : pc + 1 = q) (kk : G X nL k n ws lv q (v :: w :: v :: w :: st)) : G X nL k n ws lv pc (v :: w :: st) := by
  obtain ⟨p, l', e, R, s, m, args, below, meth, c, D', cI', A, Q⟩ := X
  obtain ⟨rfl, rfl, rfl, hx, hb, hml, hown, hts, hK, hA, hfr, hlo, hmc, hms, hst, hns⟩ := hX
  subst hq
  intro H locs ls hP hD hS hl
  exact lv_dup2_11 hx hb hd hc hc2 (kk H locs ls hP hD hS hl)
theorem zg_dup_x1 {X : gT} {l : Launch} {D : va_G} {cI : ClassId} {own : String} {cc : ByteArray} {nL lvl mc ms k n : Nat} {ws : va_W} {lv : List (Nat × Value)} {pc : Nat} {st : List Value} (hX : OKB X l D cI own cc nL lvl mc ms) {v w : Value} (hc : v.category = 1) (hc2 : w.category = 1) (hd : decode cc pc = .ok (.dup_x1, 1)) (q : Nat) (hq : pc + 1 = q) (kk : G X nL k n ws lv q (v :: w :: v :: st)) : G X nL k n ws lv pc (v :: w :: st) := by
  obtain ⟨p, l', e, R, s, m, args, below, meth, c, D', cI', A, Q⟩ := X
  obtain ⟨rfl, rfl, rfl, hx, hb, hml, hown, hts, hK, hA, hfr, hlo, hmc, hms, hst, hns⟩ := hX
  subst hq
  intro H locs ls hP hD hS hl
  exact lv_dup_x1 hx hb hd hc hc2 (kk H locs ls hP hD hS hl)
theorem zg_icmp_eq {X : gT} {l : Launch} {D : va_G} {cI : ClassId} {own : String} {cc : ByteArray} {nL lvl mc ms k n : Nat} {ws : va_W} {lv : List (Nat × Value)} {pc : Nat} {st : List Value} (hX : OKB X l D cI own cc nL lvl mc ms) {a b off : Int} (ha : -2147483648 ≤ a ∧ a < 2147483648) (hb2 : -2147483648 ≤ b ∧ b < 2147483648) (hd : decode cc pc = .ok (.if_icmp .eq off, 3)) (tg : Nat) (ht : (pc : Int) + off = (tg : Int)) (q : Nat) (hq : pc + 3 = q) (kt : a = b → G X nL k n ws lv tg st) (kf : ¬ (a = b) → G X nL k n ws lv q st) : G X nL k n ws lv pc (.int (zI b) :: .int (zI a) :: st) := by
  obtain ⟨p, l', e, R, s, m, args, below, meth, c, D', cI', A, Q⟩ := X
  obtain ⟨rfl, rfl, rfl, hx, hb, hml, hown, hts, hK, hA, hfr, hlo, hmc, hms, hst, hns⟩ := hX
  subst hq
  intro H locs ls hP hD hS hl
  have e1 := zI_lt ha hb2
  have e2 := zI_lt hb2 ha
  have e3 := zI_le ha hb2
  have e4 := zI_le hb2 ha
  have e5 := zI_eq ha hb2
  exact lv_icmp_eq (tgt := tg) hx hb hd ht (fun h => kt (by first | exact e1.mp h | exact e2.mp h | exact e3.mp h | exact e4.mp h | exact e5.mp h | exact fun z => h (e5.mpr z)) H locs ls hP hD hS hl) (fun h => kf (by first | exact fun z => h (e1.mpr z) | exact fun z => h (e2.mpr z) | exact fun z => h (e3.mpr z) | exact fun z => h (e4.mpr z) | exact fun z => h (e5.mpr z) | exact fun z => z (e5.mp h)) H locs ls hP hD hS hl)
theorem zg_if_eq {X : gT} {l : Launch} {D : va_G} {cI : ClassId} {own : String} {cc : ByteArray} {nL lvl mc ms k n : Nat} {ws : va_W} {lv : List (Nat × Value)} {pc : Nat} {st : List Value} (hX : OKB X l D cI own cc nL lvl mc ms) {a off : Int} (ha : -2147483648 ≤ a ∧ a < 2147483648) (hd : decode cc pc = .ok (.ifCond .eq off, 3)) (tg : Nat) (ht : (pc : Int) + off = (tg : Int)) (q : Nat) (hq : pc + 3 = q) (kt : a = 0 → G X nL k n ws lv tg st) (kf : ¬ (a = 0) → G X nL k n ws lv q st) : G X nL k n ws lv pc (.int (zI a) :: st) := by
  obtain ⟨p, l', e, R, s, m, args, below, meth, c, D', cI', A, Q⟩ := X
  obtain ⟨rfl, rfl, rfl, hx, hb, hml, hown, hts, hK, hA, hfr, hlo, hmc, hms, hst, hns⟩ := hX
  subst hq
  intro H locs ls hP hD hS hl
  have hb2 : -2147483648 ≤ (0 : Int) ∧ (0 : Int) < 2147483648 := by decide
  have e1 := zI_lt ha hb2
  have e2 := zI_lt hb2 ha
  have e3 := zI_le ha hb2
  have e4 := zI_le hb2 ha
  have e5 := zI_eq ha hb2
  rw [← zI_z] at e1 e2 e3 e4 e5
  exact lv_if_eq (tgt := tg) hx hb hd ht (fun h => kt (by first | exact e1.mp h | exact e2.mp h | exact e3.mp h | exact e4.mp h | exact e5.mp h | exact fun z => h (e5.mpr z)) H locs ls hP hD hS hl) (fun h => kf (by first | exact fun z => h (e1.mpr z) | exact fun z => h (e2.mpr z) | exact fun z => h (e3.mpr z) | exact fun z => h (e4.mpr z) | exact fun z => h (e5.mpr z) | exact fun z => z (e5.mp h)) H locs ls hP hD hS hl)
theorem zg_icmp_ne {X : gT} {l : Launch} {D : va_G} {cI : ClassId} {own : String} {cc : ByteArray} {nL lvl mc ms k n : Nat} {ws : va_W} {lv : List (Nat × Value)} {pc : Nat} {st : List Value} (hX : OKB X l D cI own cc nL lvl mc ms) {a b off : Int} (ha : -2147483648 ≤ a ∧ a < 2147483648) (hb2 : -2147483648 ≤ b ∧ b < 2147483648) (hd : decode cc pc = .ok (.if_icmp .ne off, 3)) (tg : Nat) (ht : (pc : Int) + off = (tg : Int)) (q : Nat) (hq : pc + 3 = q) (kt : ¬ a = b → G X nL k n ws lv tg st) (kf : ¬ (¬ a = b) → G X nL k n ws lv q st) : G X nL k n ws lv pc (.int (zI b) :: .int (zI a) :: st) := by
  obtain ⟨p, l', e, R, s, m, args, below, meth, c, D', cI', A, Q⟩ := X
  obtain ⟨rfl, rfl, rfl, hx, hb, hml, hown, hts, hK, hA, hfr, hlo, hmc, hms, hst, hns⟩ := hX
  subst hq
  intro H locs ls hP hD hS hl
  have e1 := zI_lt ha hb2
  have e2 := zI_lt hb2 ha
  have e3 := zI_le ha hb2
  have e4 := zI_le hb2 ha
  have e5 := zI_eq ha hb2
  exact lv_icmp_ne (tgt := tg) hx hb hd ht (fun h => kt (by first | exact e1.mp h | exact e2.mp h | exact e3.mp h | exact e4.mp h | exact e5.mp h | exact fun z => h (e5.mpr z)) H locs ls hP hD hS hl) (fun h => kf (by first | exact fun z => h (e1.mpr z) | exact fun z => h (e2.mpr z) | exact fun z => h (e3.mpr z) | exact fun z => h (e4.mpr z) | exact fun z => h (e5.mpr z) | exact fun z => z (e5.mp h)) H locs ls hP hD hS hl)
theorem zg_if_ne {X : gT} {l : Launch} {D : va_G} {cI : ClassId} {own : String} {cc : ByteArray} {nL lvl mc ms k n : Nat} {ws : va_W} {lv : List (Nat × Value)} {pc : Nat} {st : List Value} (hX : OKB X l D cI own cc nL lvl mc ms) {a off : Int} (ha : -2147483648 ≤ a ∧ a < 2147483648) (hd : decode cc pc = .ok (.ifCond .ne off, 3)) (tg : Nat) (ht : (pc : Int) + off = (tg : Int)) (q : Nat) (hq : pc + 3 = q) (kt : ¬ a = 0 → G X nL k n ws lv tg st) (kf : ¬ (¬ a = 0) → G X nL k n ws lv q st) : G X nL k n ws lv pc (.int (zI a) :: st) := by
  obtain ⟨p, l', e, R, s, m, args, below, meth, c, D', cI', A, Q⟩ := X
  obtain ⟨rfl, rfl, rfl, hx, hb, hml, hown, hts, hK, hA, hfr, hlo, hmc, hms, hst, hns⟩ := hX
  subst hq
  intro H locs ls hP hD hS hl
  have hb2 : -2147483648 ≤ (0 : Int) ∧ (0 : Int) < 2147483648 := by decide
  have e1 := zI_lt ha hb2
  have e2 := zI_lt hb2 ha
  have e3 := zI_le ha hb2
  have e4 := zI_le hb2 ha
  have e5 := zI_eq ha hb2
  rw [← zI_z] at e1 e2 e3 e4 e5
  exact lv_if_ne (tgt := tg) hx hb hd ht (fun h => kt (by first | exact e1.mp h | exact e2.mp h | exact e3.mp h | exact e4.mp h | exact e5.mp h | exact fun z => h (e5.mpr z)) H locs ls hP hD hS hl) (fun h => kf (by first | exact fun z => h (e1.mpr z) | exact fun z => h (e2.mpr z) | exact fun z => h (e3.mpr z) | exact fun z => h (e4.mpr z) | exact fun z => h (e5.mpr z) | exact fun z => z (e5.mp h)) H locs ls hP hD hS hl)
theorem zg_icmp_lt {X : gT} {l : Launch} {D : va_G} {cI : ClassId} {own : String} {cc : ByteArray} {nL lvl mc ms k n : Nat} {ws : va_W} {lv : List (Nat × Value)} {pc : Nat} {st : List Value} (hX : OKB X l D cI own cc nL lvl mc ms) {a b off : Int} (ha : -2147483648 ≤ a ∧ a < 2147483648) (hb2 : -2147483648 ≤ b ∧ b < 2147483648) (hd : decode cc pc = .ok (.if_icmp .lt off, 3)) (tg : Nat) (ht : (pc : Int) + off = (tg : Int)) (q : Nat) (hq : pc + 3 = q) (kt : a < b → G X nL k n ws lv tg st) (kf : ¬ (a < b) → G X nL k n ws lv q st) : G X nL k n ws lv pc (.int (zI b) :: .int (zI a) :: st) := by
  obtain ⟨p, l', e, R, s, m, args, below, meth, c, D', cI', A, Q⟩ := X
  obtain ⟨rfl, rfl, rfl, hx, hb, hml, hown, hts, hK, hA, hfr, hlo, hmc, hms, hst, hns⟩ := hX
  subst hq
  intro H locs ls hP hD hS hl
  have e1 := zI_lt ha hb2
  have e2 := zI_lt hb2 ha
  have e3 := zI_le ha hb2
  have e4 := zI_le hb2 ha
  have e5 := zI_eq ha hb2
  exact lv_icmp_lt (tgt := tg) hx hb hd ht (fun h => kt (by first | exact e1.mp h | exact e2.mp h | exact e3.mp h | exact e4.mp h | exact e5.mp h | exact fun z => h (e5.mpr z)) H locs ls hP hD hS hl) (fun h => kf (by first | exact fun z => h (e1.mpr z) | exact fun z => h (e2.mpr z) | exact fun z => h (e3.mpr z) | exact fun z => h (e4.mpr z) | exact fun z => h (e5.mpr z) | exact fun z => z (e5.mp h)) H locs ls hP hD hS hl)
theorem zg_if_lt {X : gT} {l : Launch} {D : va_G} {cI : ClassId} {own : String} {cc : ByteArray} {nL lvl mc ms k n : Nat} {ws : va_W} {lv : List (Nat × Value)} {pc : Nat} {st : List Value} (hX : OKB X l D cI own cc nL lvl mc ms) {a off : Int} (ha : -2147483648 ≤ a ∧ a < 2147483648) (hd : decode cc pc = .ok (.ifCond .lt off, 3)) (tg : Nat) (ht : (pc : Int) + off = (tg : Int)) (q : Nat) (hq : pc + 3 = q) (kt : a < 0 → G X nL k n ws lv tg st) (kf : ¬ (a < 0) → G X nL k n ws lv q st) : G X nL k n ws lv pc (.int (zI a) :: st) := by
  obtain ⟨p, l', e, R, s, m, args, below, meth, c, D', cI', A, Q⟩ := X
  obtain ⟨rfl, rfl, rfl, hx, hb, hml, hown, hts, hK, hA, hfr, hlo, hmc, hms, hst, hns⟩ := hX
  subst hq
  intro H locs ls hP hD hS hl
  have hb2 : -2147483648 ≤ (0 : Int) ∧ (0 : Int) < 2147483648 := by decide
  have e1 := zI_lt ha hb2
  have e2 := zI_lt hb2 ha
  have e3 := zI_le ha hb2
  have e4 := zI_le hb2 ha
  have e5 := zI_eq ha hb2
  rw [← zI_z] at e1 e2 e3 e4 e5
  exact lv_if_lt (tgt := tg) hx hb hd ht (fun h => kt (by first | exact e1.mp h | exact e2.mp h | exact e3.mp h | exact e4.mp h | exact e5.mp h | exact fun z => h (e5.mpr z)) H locs ls hP hD hS hl) (fun h => kf (by first | exact fun z => h (e1.mpr z) | exact fun z => h (e2.mpr z) | exact fun z => h (e3.mpr z) | exact fun z => h (e4.mpr z) | exact fun z => h (e5.mpr z) | exact fun z => z (e5.mp h)) H locs ls hP hD hS hl)
theorem zg_icmp_ge {X : gT} {l : Launch} {D : va_G} {cI : ClassId} {own : String} {cc : ByteArray} {nL lvl mc ms k n : Nat} {ws : va_W} {lv : List (Nat × Value)} {pc : Nat} {st : List Value} (hX : OKB X l D cI own cc nL lvl mc ms) {a b off : Int} (ha : -2147483648 ≤ a ∧ a < 2147483648) (hb2 : -2147483648 ≤ b ∧ b < 2147483648) (hd : decode cc pc = .ok (.if_icmp .ge off, 3)) (tg : Nat) (ht : (pc : Int) + off = (tg : Int)) (q : Nat) (hq : pc + 3 = q) (kt : b ≤ a → G X nL k n ws lv tg st) (kf : ¬ (b ≤ a) → G X nL k n ws lv q st) : G X nL k n ws lv pc (.int (zI b) :: .int (zI a) :: st) := by
  obtain ⟨p, l', e, R, s, m, args, below, meth, c, D', cI', A, Q⟩ := X
  obtain ⟨rfl, rfl, rfl, hx, hb, hml, hown, hts, hK, hA, hfr, hlo, hmc, hms, hst, hns⟩ := hX
  subst hq
  intro H locs ls hP hD hS hl
  have e1 := zI_lt ha hb2
  have e2 := zI_lt hb2 ha
  have e3 := zI_le ha hb2
  have e4 := zI_le hb2 ha
  have e5 := zI_eq ha hb2
  exact lv_icmp_ge (tgt := tg) hx hb hd ht (fun h => kt (by first | exact e1.mp h | exact e2.mp h | exact e3.mp h | exact e4.mp h | exact e5.mp h | exact fun z => h (e5.mpr z)) H locs ls hP hD hS hl) (fun h => kf (by first | exact fun z => h (e1.mpr z) | exact fun z => h (e2.mpr z) | exact fun z => h (e3.mpr z) | exact fun z => h (e4.mpr z) | exact fun z => h (e5.mpr z) | exact fun z => z (e5.mp h)) H locs ls hP hD hS hl)
theorem zg_if_ge {X : gT} {l : Launch} {D : va_G} {cI : ClassId} {own : String} {cc : ByteArray} {nL lvl mc ms k n : Nat} {ws : va_W} {lv : List (Nat × Value)} {pc : Nat} {st : List Value} (hX : OKB X l D cI own cc nL lvl mc ms) {a off : Int} (ha : -2147483648 ≤ a ∧ a < 2147483648) (hd : decode cc pc = .ok (.ifCond .ge off, 3)) (tg : Nat) (ht : (pc : Int) + off = (tg : Int)) (q : Nat) (hq : pc + 3 = q) (kt : 0 ≤ a → G X nL k n ws lv tg st) (kf : ¬ (0 ≤ a) → G X nL k n ws lv q st) : G X nL k n ws lv pc (.int (zI a) :: st) := by
  obtain ⟨p, l', e, R, s, m, args, below, meth, c, D', cI', A, Q⟩ := X
  obtain ⟨rfl, rfl, rfl, hx, hb, hml, hown, hts, hK, hA, hfr, hlo, hmc, hms, hst, hns⟩ := hX
  subst hq
  intro H locs ls hP hD hS hl
  have hb2 : -2147483648 ≤ (0 : Int) ∧ (0 : Int) < 2147483648 := by decide
  have e1 := zI_lt ha hb2
  have e2 := zI_lt hb2 ha
  have e3 := zI_le ha hb2
  have e4 := zI_le hb2 ha
  have e5 := zI_eq ha hb2
  rw [← zI_z] at e1 e2 e3 e4 e5
  exact lv_if_ge (tgt := tg) hx hb hd ht (fun h => kt (by first | exact e1.mp h | exact e2.mp h | exact e3.mp h | exact e4.mp h | exact e5.mp h | exact fun z => h (e5.mpr z)) H locs ls hP hD hS hl) (fun h => kf (by first | exact fun z => h (e1.mpr z) | exact fun z => h (e2.mpr z) | exact fun z => h (e3.mpr z) | exact fun z => h (e4.mpr z) | exact fun z => h (e5.mpr z) | exact fun z => z (e5.mp h)) H locs ls hP hD hS hl)
theorem zg_icmp_gt {X : gT} {l : Launch} {D : va_G} {cI : ClassId} {own : String} {cc : ByteArray} {nL lvl mc ms k n : Nat} {ws : va_W} {lv : List (Nat × Value)} {pc : Nat} {st : List Value} (hX : OKB X l D cI own cc nL lvl mc ms) {a b off : Int} (ha : -2147483648 ≤ a ∧ a < 2147483648) (hb2 : -2147483648 ≤ b ∧ b < 2147483648) (hd : decode cc pc = .ok (.if_icmp .gt off, 3)) (tg : Nat) (ht : (pc : Int) + off = (tg : Int)) (q : Nat) (hq : pc + 3 = q) (kt : b < a → G X nL k n ws lv tg st) (kf : ¬ (b < a) → G X nL k n ws lv q st) : G X nL k n ws lv pc (.int (zI b) :: .int (zI a) :: st) := by
  obtain ⟨p, l', e, R, s, m, args, below, meth, c, D', cI', A, Q⟩ := X
  obtain ⟨rfl, rfl, rfl, hx, hb, hml, hown, hts, hK, hA, hfr, hlo, hmc, hms, hst, hns⟩ := hX
  subst hq
  intro H locs ls hP hD hS hl
  have e1 := zI_lt ha hb2
  have e2 := zI_lt hb2 ha
  have e3 := zI_le ha hb2
  have e4 := zI_le hb2 ha
  have e5 := zI_eq ha hb2
  exact lv_icmp_gt (tgt := tg) hx hb hd ht (fun h => kt (by first | exact e1.mp h | exact e2.mp h | exact e3.mp h | exact e4.mp h | exact e5.mp h | exact fun z => h (e5.mpr z)) H locs ls hP hD hS hl) (fun h => kf (by first | exact fun z => h (e1.mpr z) | exact fun z => h (e2.mpr z) | exact fun z => h (e3.mpr z) | exact fun z => h (e4.mpr z) | exact fun z => h (e5.mpr z) | exact fun z => z (e5.mp h)) H locs ls hP hD hS hl)
theorem zg_if_gt {X : gT} {l : Launch} {D : va_G} {cI : ClassId} {own : String} {cc : ByteArray} {nL lvl mc ms k n : Nat} {ws : va_W} {lv : List (Nat × Value)} {pc : Nat} {st : List Value} (hX : OKB X l D cI own cc nL lvl mc ms) {a off : Int} (ha : -2147483648 ≤ a ∧ a < 2147483648) (hd : decode cc pc = .ok (.ifCond .gt off, 3)) (tg : Nat) (ht : (pc : Int) + off = (tg : Int)) (q : Nat) (hq : pc + 3 = q) (kt : 0 < a → G X nL k n ws lv tg st) (kf : ¬ (0 < a) → G X nL k n ws lv q st) : G X nL k n ws lv pc (.int (zI a) :: st) := by
  obtain ⟨p, l', e, R, s, m, args, below, meth, c, D', cI', A, Q⟩ := X
  obtain ⟨rfl, rfl, rfl, hx, hb, hml, hown, hts, hK, hA, hfr, hlo, hmc, hms, hst, hns⟩ := hX
  subst hq
  intro H locs ls hP hD hS hl
  have hb2 : -2147483648 ≤ (0 : Int) ∧ (0 : Int) < 2147483648 := by decide
  have e1 := zI_lt ha hb2
  have e2 := zI_lt hb2 ha
  have e3 := zI_le ha hb2
  have e4 := zI_le hb2 ha
  have e5 := zI_eq ha hb2
  rw [← zI_z] at e1 e2 e3 e4 e5
  exact lv_if_gt (tgt := tg) hx hb hd ht (fun h => kt (by first | exact e1.mp h | exact e2.mp h | exact e3.mp h | exact e4.mp h | exact e5.mp h | exact fun z => h (e5.mpr z)) H locs ls hP hD hS hl) (fun h => kf (by first | exact fun z => h (e1.mpr z) | exact fun z => h (e2.mpr z) | exact fun z => h (e3.mpr z) | exact fun z => h (e4.mpr z) | exact fun z => h (e5.mpr z) | exact fun z => z (e5.mp h)) H locs ls hP hD hS hl)
theorem zg_icmp_le {X : gT} {l : Launch} {D : va_G} {cI : ClassId} {own : String} {cc : ByteArray} {nL lvl mc ms k n : Nat} {ws : va_W} {lv : List (Nat × Value)} {pc : Nat} {st : List Value} (hX : OKB X l D cI own cc nL lvl mc ms) {a b off : Int} (ha : -2147483648 ≤ a ∧ a < 2147483648) (hb2 : -2147483648 ≤ b ∧ b < 2147483648) (hd : decode cc pc = .ok (.if_icmp .le off, 3)) (tg : Nat) (ht : (pc : Int) + off = (tg : Int)) (q : Nat) (hq : pc + 3 = q) (kt : a ≤ b → G X nL k n ws lv tg st) (kf : ¬ (a ≤ b) → G X nL k n ws lv q st) : G X nL k n ws lv pc (.int (zI b) :: .int (zI a) :: st) := by
  obtain ⟨p, l', e, R, s, m, args, below, meth, c, D', cI', A, Q⟩ := X
  obtain ⟨rfl, rfl, rfl, hx, hb, hml, hown, hts, hK, hA, hfr, hlo, hmc, hms, hst, hns⟩ := hX
  subst hq
  intro H locs ls hP hD hS hl
  have e1 := zI_lt ha hb2
  have e2 := zI_lt hb2 ha
  have e3 := zI_le ha hb2
  have e4 := zI_le hb2 ha
  have e5 := zI_eq ha hb2
  exact lv_icmp_le (tgt := tg) hx hb hd ht (fun h => kt (by first | exact e1.mp h | exact e2.mp h | exact e3.mp h | exact e4.mp h | exact e5.mp h | exact fun z => h (e5.mpr z)) H locs ls hP hD hS hl) (fun h => kf (by first | exact fun z => h (e1.mpr z) | exact fun z => h (e2.mpr z) | exact fun z => h (e3.mpr z) | exact fun z => h (e4.mpr z) | exact fun z => h (e5.mpr z) | exact fun z => z (e5.mp h)) H locs ls hP hD hS hl)
theorem zg_if_le {X : gT} {l : Launch} {D : va_G} {cI : ClassId} {own : String} {cc : ByteArray} {nL lvl mc ms k n : Nat} {ws : va_W} {lv : List (Nat × Value)} {pc : Nat} {st : List Value} (hX : OKB X l D cI own cc nL lvl mc ms) {a off : Int} (ha : -2147483648 ≤ a ∧ a < 2147483648) (hd : decode cc pc = .ok (.ifCond .le off, 3)) (tg : Nat) (ht : (pc : Int) + off = (tg : Int)) (q : Nat) (hq : pc + 3 = q) (kt : a ≤ 0 → G X nL k n ws lv tg st) (kf : ¬ (a ≤ 0) → G X nL k n ws lv q st) : G X nL k n ws lv pc (.int (zI a) :: st) := by
  obtain ⟨p, l', e, R, s, m, args, below, meth, c, D', cI', A, Q⟩ := X
  obtain ⟨rfl, rfl, rfl, hx, hb, hml, hown, hts, hK, hA, hfr, hlo, hmc, hms, hst, hns⟩ := hX
  subst hq
  intro H locs ls hP hD hS hl
  have hb2 : -2147483648 ≤ (0 : Int) ∧ (0 : Int) < 2147483648 := by decide
  have e1 := zI_lt ha hb2
  have e2 := zI_lt hb2 ha
  have e3 := zI_le ha hb2
  have e4 := zI_le hb2 ha
  have e5 := zI_eq ha hb2
  rw [← zI_z] at e1 e2 e3 e4 e5
  exact lv_if_le (tgt := tg) hx hb hd ht (fun h => kt (by first | exact e1.mp h | exact e2.mp h | exact e3.mp h | exact e4.mp h | exact e5.mp h | exact fun z => h (e5.mpr z)) H locs ls hP hD hS hl) (fun h => kf (by first | exact fun z => h (e1.mpr z) | exact fun z => h (e2.mpr z) | exact fun z => h (e3.mpr z) | exact fun z => h (e4.mpr z) | exact fun z => h (e5.mpr z) | exact fun z => z (e5.mp h)) H locs ls hP hD hS hl)
theorem zg_ifb_eq {X : gT} {l : Launch} {D : va_G} {cI : ClassId} {own : String} {cc : ByteArray} {nL lvl mc ms k n : Nat} {ws : va_W} {lv : List (Nat × Value)} {pc : Nat} {st : List Value} (hX : OKB X l D cI own cc nL lvl mc ms) {b : Bool} {off : Int} (hd : decode cc pc = .ok (.ifCond .eq off, 3)) (tg : Nat) (ht : (pc : Int) + off = (tg : Int)) (q : Nat) (hq : pc + 3 = q) (kt : b = false → G X nL k n ws lv tg st) (kf : b = true → G X nL k n ws lv q st) : G X nL k n ws lv pc (.int (zI (b2 b)) :: st) := by
  obtain ⟨p, l', e, R, s, m, args, below, meth, c, D', cI', A, Q⟩ := X
  obtain ⟨rfl, rfl, rfl, hx, hb, hml, hown, hts, hK, hA, hfr, hlo, hmc, hms, hst, hns⟩ := hX
  subst hq
  intro H locs ls hP hD hS hl
  exact lv_if_eq (tgt := tg) hx hb hd ht (fun h => kt (by cases b with | false => rfl | true => exact absurd h (by decide)) H locs ls hP hD hS hl) (fun h => kf (by cases b with | true => rfl | false => exact absurd (by decide) h) H locs ls hP hD hS hl)
theorem zg_ifb_ne {X : gT} {l : Launch} {D : va_G} {cI : ClassId} {own : String} {cc : ByteArray} {nL lvl mc ms k n : Nat} {ws : va_W} {lv : List (Nat × Value)} {pc : Nat} {st : List Value} (hX : OKB X l D cI own cc nL lvl mc ms) {b : Bool} {off : Int} (hd : decode cc pc = .ok (.ifCond .ne off, 3)) (tg : Nat) (ht : (pc : Int) + off = (tg : Int)) (q : Nat) (hq : pc + 3 = q) (kt : b = true → G X nL k n ws lv tg st) (kf : b = false → G X nL k n ws lv q st) : G X nL k n ws lv pc (.int (zI (b2 b)) :: st) := by
  obtain ⟨p, l', e, R, s, m, args, below, meth, c, D', cI', A, Q⟩ := X
  obtain ⟨rfl, rfl, rfl, hx, hb, hml, hown, hts, hK, hA, hfr, hlo, hmc, hms, hst, hns⟩ := hX
  subst hq
  intro H locs ls hP hD hS hl
  exact lv_if_ne (tgt := tg) hx hb hd ht (fun h => kt (by cases b with | true => rfl | false => exact absurd (by decide) h) H locs ls hP hD hS hl) (fun h => kf (by cases b with | false => rfl | true => exact absurd h (by decide)) H locs ls hP hD hS hl)
theorem zg_goto {X : gT} {l : Launch} {D : va_G} {cI : ClassId} {own : String} {cc : ByteArray} {nL lvl mc ms k n : Nat} {ws : va_W} {lv : List (Nat × Value)} {pc : Nat} {st : List Value} (hX : OKB X l D cI own cc nL lvl mc ms) {off : Int} (hd : decode cc pc = .ok (.goto off, 3)) (tg : Nat) (ht : (pc : Int) + off = (tg : Int)) (kk : G X nL k n ws lv tg st) : G X nL k n ws lv pc st := by
  obtain ⟨p, l', e, R, s, m, args, below, meth, c, D', cI', A, Q⟩ := X
  obtain ⟨rfl, rfl, rfl, hx, hb, hml, hown, hts, hK, hA, hfr, hlo, hmc, hms, hst, hns⟩ := hX
  intro H locs ls hP hD hS hl
  exact lv_goto (tgt := tg) hx hb hd ht (kk H locs ls hP hD hS hl)
theorem zg_tableIn {X : gT} {l : Launch} {D : va_G} {cI : ClassId} {own : String} {cc : ByteArray} {nL lvl mc ms k n : Nat} {ws : va_W} {lv : List (Nat × Value)} {pc : Nat} {st : List Value} (hX : OKB X l D cI own cc nL lvl mc ms) {a dflt lo hi off : Int} {offs : Array Int} {len : Nat} (ha : -2147483648 ≤ a ∧ a < 2147483648) (hd : decode cc pc = .ok (.tableswitch dflt lo hi offs, len)) (h1 : lo ≤ a) (h2 : a ≤ hi) (j : Nat) (hj : a = lo + (j : Int)) (ho : offs[j]? = some off) (tg : Nat) (ht : (pc : Int) + off = (tg : Int)) (kk : G X nL k n ws lv tg st) : G X nL k n ws lv pc (.int (zI a) :: st) := by
  obtain ⟨p, l', e, R, s, m, args, below, meth, c, D', cI', A, Q⟩ := X
  obtain ⟨rfl, rfl, rfl, hx, hb, hml, hown, hts, hK, hA, hfr, hlo, hmc, hms, hst, hns⟩ := hX
  intro H locs ls hP hD hS hl
  exact lv_tableIn (tgt := tg) hx hb hd (by rw [zI_toInt ha]; omega) (by rw [zI_toInt ha]; omega) (by rw [zI_toInt ha, show (a - lo).toNat = j by omega]; exact ho) ht (kk H locs ls hP hD hS hl)
theorem zg_tableOut {X : gT} {l : Launch} {D : va_G} {cI : ClassId} {own : String} {cc : ByteArray} {nL lvl mc ms k n : Nat} {ws : va_W} {lv : List (Nat × Value)} {pc : Nat} {st : List Value} (hX : OKB X l D cI own cc nL lvl mc ms) {a dflt lo hi : Int} {offs : Array Int} {len : Nat} (ha : -2147483648 ≤ a ∧ a < 2147483648) (hd : decode cc pc = .ok (.tableswitch dflt lo hi offs, len)) (h1 : a < lo ∨ hi < a) (tg : Nat) (ht : (pc : Int) + dflt = (tg : Int)) (kk : G X nL k n ws lv tg st) : G X nL k n ws lv pc (.int (zI a) :: st) := by
  obtain ⟨p, l', e, R, s, m, args, below, meth, c, D', cI', A, Q⟩ := X
  obtain ⟨rfl, rfl, rfl, hx, hb, hml, hown, hts, hK, hA, hfr, hlo, hmc, hms, hst, hns⟩ := hX
  intro H locs ls hP hD hS hl
  exact lv_tableOut (tgt := tg) hx hb hd (by rw [zI_toInt ha]; exact h1) ht (kk H locs ls hP hD hS hl)
theorem zg_lookup {X : gT} {l : Launch} {D : va_G} {cI : ClassId} {own : String} {cc : ByteArray} {nL lvl mc ms k n : Nat} {ws : va_W} {lv : List (Nat × Value)} {pc : Nat} {st : List Value} (hX : OKB X l D cI own cc nL lvl mc ms) {a dflt off : Int} {ps : Array (Int × Int)} {len : Nat} (ha : -2147483648 ≤ a ∧ a < 2147483648) (hd : decode cc pc = .ok (.lookupswitch dflt ps, len)) (hp : (ps.toList.zip (ps.toList.drop 1)).all (fun (a, next) => a.1 < next.1) = true) (ho : Op.lookupswitch.offset ps.toList dflt a = off) (tg : Nat) (ht : (pc : Int) + off = (tg : Int)) (kk : G X nL k n ws lv tg st) : G X nL k n ws lv pc (.int (zI a) :: st) := by
  obtain ⟨p, l', e, R, s, m, args, below, meth, c, D', cI', A, Q⟩ := X
  obtain ⟨rfl, rfl, rfl, hx, hb, hml, hown, hts, hK, hA, hfr, hlo, hmc, hms, hst, hns⟩ := hX
  intro H locs ls hP hD hS hl
  exact lv_lookup (tgt := tg) hx hb hd hp (by rw [zI_toInt ha]; exact ho) ht (kk H locs ls hP hD hS hl)
theorem zg_get {X : gT} {l : Launch} {D : va_G} {cI : ClassId} {own : String} {cc : ByteArray} {nL lvl mc ms k n : Nat} {ws : va_W} {lv : List (Nat × Value)} {pc : Nat} {st : List Value} (hX : OKB X l D cI own cc nL lvl mc ms) {ci k0 j idx N a : Nat} {C : String} {T : u_T} {fs : List Value} {v : Value} (he : ws[k0]? = some (a, .inr (ci, fs))) (hc : vwCl[ci]? = some (C, T, N)) (hin : ∀ w ∈ u_ws C T N, w ∈ lw_u) (hj : j < N) (hw : Cond.fieldLink own idx (T j).1 (T j).2.1 (T j).2.2.1 ∈ lw_u) (hv : fs[j]? = some v) (hd : decode cc pc = .ok (.getfield idx, 3)) (q : Nat) (hq : pc + 3 = q) (kk : G X nL k n ws lv q (v :: st)) : G X nL k n ws lv pc (.ref a :: st) := by
  obtain ⟨p, l', e, R, s, m, args, below, meth, c, D', cI', A, Q⟩ := X
  obtain ⟨rfl, rfl, rfl, hx, hb, hml, hown, hts, hK, hA, hfr, hlo, hmc, hms, hst, hns⟩ := hX
  subst hq
  intro H locs ls hP hD hS hl
  exact va_get hx hb hts hin hown hK hP k0 he hc j hj (hts _ hw) (fun _ h9 => h9) hv hd (kk H locs ls hP hD hS hl)
theorem zg_put {X : gT} {l : Launch} {D : va_G} {cI : ClassId} {own : String} {cc : ByteArray} {nL lvl mc ms k n : Nat} {ws : va_W} {lv : List (Nat × Value)} {pc : Nat} {st : List Value} (hX : OKB X l D cI own cc nL lvl mc ms) {ci k0 j idx N a : Nat} {C : String} {T : u_T} {fs : List Value} {v : Value} {ty0 : Nat → FieldType} {ty : FieldType} (ws2 : va_W) (he : ws[k0]? = some (a, .inr (ci, fs))) (hc : vwCl[ci]? = some (C, T, N)) (hin : ∀ w ∈ u_ws C T N, w ∈ lw_u) (hty : ∀ k, k < N → parseFieldDescriptor (T k).2.2.1 = some (ty0 k)) (hnm : ∀ a, a < N → ∀ b, b < N → a ≠ b → (T a).2.1 ≠ (T b).2.1) (hj : j < N) (hw : Cond.fieldLink own idx (T j).1 (T j).2.1 (T j).2.2.1 ∈ lw_u) (hfin : (T j).2.2.2 = false) (htj : ty0 j = ty) (hn : narrow ty v = v) (hfit : fits ty v = true) (hlen : j < fs.length) (h2 : ws.set k0 (a, .inr (ci, fs.set j v)) = ws2) (hd : decode cc pc = .ok (.putfield idx, 3)) (q : Nat) (hq : pc + 3 = q) (kk : G X nL k n ws2 lv q st) : G X nL k n ws lv pc (v :: .ref a :: st) := by
  obtain ⟨p, l', e, R, s, m, args, below, meth, c, D', cI', A, Q⟩ := X
  obtain ⟨rfl, rfl, rfl, hx, hb, hml, hown, hts, hK, hA, hfr, hlo, hmc, hms, hst, hns⟩ := hX
  subst hq
  intro H locs ls hP hD hS hl
  exact va_put hx hb hts hin ty0 hty hnm hown hK hP hD hS k0 he hc j hj (hts _ hw) (fun _ h9 => h9) hfin ((hty j hj).trans (congrArg some htj)) hn hfit hlen hd (fun H1 locs1 hP hD hS => kk H1 locs1 ls (h2 ▸ hP) (h2 ▸ hD) hS hl)
theorem zg_putF {X : gT} {l : Launch} {D : va_G} {cI : ClassId} {own : String} {cc : ByteArray} {nL lvl mc ms k n : Nat} {ws : va_W} {lv : List (Nat × Value)} {pc : Nat} {st : List Value} (hX : OKB X l D cI own cc nL lvl mc ms) {ci k0 j idx N a : Nat} {C : String} {T : u_T} {fs : List Value} {v : Value} {ty0 : Nat → FieldType} {ty : FieldType} {y : MethodName} {ret : Option FieldType} {post : Option Value → va_W → Prop} {mc2 ms2 : Nat} (hR : OKR X y ret mc2 ms2 post) (ws2 : va_W) (hyn : y.name = "<init>") (he : ws[k0]? = some (a, .inr (ci, fs))) (hc : vwCl[ci]? = some (C, T, N)) (hin : ∀ w ∈ u_ws C T N, w ∈ lw_u) (hty : ∀ k, k < N → parseFieldDescriptor (T k).2.2.1 = some (ty0 k)) (hnm : ∀ a, a < N → ∀ b, b < N → a ≠ b → (T a).2.1 ≠ (T b).2.1) (hj : j < N) (hw : Cond.fieldLink own idx (T j).1 (T j).2.1 (T j).2.2.1 ∈ lw_u) (hfin : (T j).2.2.2 = true) (hdecl : (T j).1 = own) (htj : ty0 j = ty) (hn : narrow ty v = v) (hfit : fits ty v = true) (hlen : j < fs.length) (h2 : ws.set k0 (a, .inr (ci, fs.set j v)) = ws2) (hd : decode cc pc = .ok (.putfield idx, 3)) (q : Nat) (hq : pc + 3 = q) (kk : G X nL k n ws2 lv q st) : G X nL k n ws lv pc (v :: .ref a :: st) := by
  obtain ⟨p, l', e, R, s, m, args, below, meth, c, D', cI', A, Q⟩ := X
  obtain ⟨rfl, rfl, rfl, hx, hb, hml, hown, hts, hK, hA, hfr, hlo, hmc, hms, hst, hns⟩ := hX
  obtain ⟨-, -, -, hmn⟩ := hR
  subst hq
  intro H locs ls hP hD hS hl
  exact va_putF hx hb hts hin ty0 hty hnm hown hK hP hD hS k0 he hc j hj (hts _ hw) (fun _ h9 => h9) hfin (hmn.trans hyn) hdecl ((hty j hj).trans (congrArg some htj)) hn hfit hlen hd (fun H1 locs1 hP hD hS => kk H1 locs1 ls (h2 ▸ hP) (h2 ▸ hD) hS hl)
theorem zg_iald {X : gT} {l : Launch} {D : va_G} {cI : ClassId} {own : String} {cc : ByteArray} {nL lvl mc ms k n : Nat} {ws : va_W} {lv : List (Nat × Value)} {pc : Nat} {st : List Value} (hX : OKB X l D cI own cc nL lvl mc ms) {i : Int} {k0 len a : Nat} {r : Nat → Int} (he : ws[k0]? = some (a, .inl (cI, len, .inl (zR r)))) (hlen : len < 1000) (j : Nat) (x : Int) (hi : i = (j : Int)) (hj : j < len) (hx2 : r j = x) (hd : decode cc pc = .ok (.iaload, 1)) (q : Nat) (hq : pc + 1 = q) (kk : G X nL k n ws lv q (.int (zI x) :: st)) : G X nL k n ws lv pc (.int (zI i) :: .ref a :: st) := by
  obtain ⟨p, l', e, R, s, m, args, below, meth, c, D', cI', A, Q⟩ := X
  obtain ⟨rfl, rfl, rfl, hx, hb, hml, hown, hts, hK, hA, hfr, hlo, hmc, hms, hst, hns⟩ := hX
  subst hq; subst hx2
  intro H locs ls hP hD hS hl
  refine va_iald hx hb hK hP k0 0 he rfl (zI_in j hi hj hlen) hd ?_
  rw [zI_cl j hi (by omega)]
  exact kk H locs ls hP hD hS hl
theorem zg_iast {X : gT} {l : Launch} {D : va_G} {cI : ClassId} {own : String} {cc : ByteArray} {nL lvl mc ms k n : Nat} {ws : va_W} {lv : List (Nat × Value)} {pc : Nat} {st : List Value} (hX : OKB X l D cI own cc nL lvl mc ms) {i x : Int} {k0 len a : Nat} {r : Nat → Int} (ws2 : va_W) (he : ws[k0]? = some (a, .inl (cI, len, .inl (zR r)))) (hlen : len < 1000) (j : Nat) (hi : i = (j : Int)) (hj : j < len) (h2 : ws.set k0 (a, .inl (cI, len, .inl (zR (pu r j x)))) = ws2) (hd : decode cc pc = .ok (.iastore, 1)) (q : Nat) (hq : pc + 1 = q) (kk : G X nL k n ws2 lv q st) : G X nL k n ws lv pc (.int (zI x) :: .int (zI i) :: .ref a :: st) := by
  obtain ⟨p, l', e, R, s, m, args, below, meth, c, D', cI', A, Q⟩ := X
  obtain ⟨rfl, rfl, rfl, hx, hb, hml, hown, hts, hK, hA, hfr, hlo, hmc, hms, hst, hns⟩ := hX
  subst hq
  intro H locs ls hP hD hS hl
  refine va_iast hx hb hK hP hD hS k0 0 he rfl (zI_in j hi hj hlen) hd ?_
  rw [zI_cl j hi (by omega), zR_upd, h2]
  exact fun H1 locs1 hP hD hS => kk H1 locs1 ls hP hD hS hl
theorem zg_alen {X : gT} {l : Launch} {D : va_G} {cI : ClassId} {own : String} {cc : ByteArray} {nL lvl mc ms k n : Nat} {ws : va_W} {lv : List (Nat × Value)} {pc : Nat} {st : List Value} (hX : OKB X l D cI own cc nL lvl mc ms) {k0 len a : Nat} {r : Nat → Int} (he : ws[k0]? = some (a, .inl (cI, len, .inl (zR r)))) (hd : decode cc pc = .ok (.arraylength, 1)) (q : Nat) (hq : pc + 1 = q) (kk : G X nL k n ws lv q (.int (zI (len : Int)) :: st)) : G X nL k n ws lv pc (.ref a :: st) := by
  obtain ⟨p, l', e, R, s, m, args, below, meth, c, D', cI', A, Q⟩ := X
  obtain ⟨rfl, rfl, rfl, hx, hb, hml, hown, hts, hK, hA, hfr, hlo, hmc, hms, hst, hns⟩ := hX
  subst hq
  intro H locs ls hP hD hS hl
  exact va_alen hx hb hK hP k0 0 he rfl (show Int32.ofNat len = zI (len : Int) from rfl) hd (kk H locs ls hP hD hS hl)
theorem zg_copy {X : gT} {l : Launch} {D : va_G} {cI : ClassId} {own : String} {cc : ByteArray} {nL lvl mc ms k n : Nat} {ws : va_W} {lv : List (Nat × Value)} {pc : Nat} {st : List Value} (hX : OKB X l D cI own cc nL lvl mc ms) {k0 k1 n0 n1 a0 a1 idx : Nat} {f g : Nat → Int} (ws2 : va_W) (ln : Nat) (w1 : Cond.methodLink own idx arraycopyName ∈ lw_u) (w2 : Cond.native arraycopyName ∈ lw_u) (w3 : Cond.static arraycopyName ∈ lw_u) (w4 : Cond.initialized "java/lang/System" ∈ lw_u) (he0 : ws[k0]? = some (a0, .inl (cI, n0, .inl (zR f)))) (he1 : ws[k1]? = some (a1, .inl (cI, n1, .inl (zR g)))) (h0 : ln ≤ n0) (h1 : ln ≤ n1) (hl : ln < 1000) (hlv : 1 ≤ lvl) (hcat : (st.map fun v => v.category).sum ≤ 8) (h2 : ws.set k1 (a1, .inl (cI, n1, .inl (zR (fun j => if j < ln then f j else g j)))) = ws2) (hd : decode cc pc = .ok (.invokestatic idx, 3)) (q : Nat) (hq : pc + 3 = q) (kk : G X nL k n ws2 lv q st) : G X nL k n ws lv pc (.int (zI (ln : Int)) :: .int (zI 0) :: .ref a1 :: .int (zI 0) :: .ref a0 :: st) := by
  obtain ⟨p, l', e, R, s, m, args, below, meth, c, D', cI', A, Q⟩ := X
  obtain ⟨rfl, rfl, rfl, hx, hb, hml, hown, hts, hK, hA, hfr, hlo, hmc, hms, hst, hns⟩ := hX
  subst hq
  have hz : (zI 0).toNatClampNeg = 0 := zI_cl 0 rfl (by omega)
  have hn : (zI (ln : Int)).toNatClampNeg = ln := zI_cl ln rfl hl
  have e9 : nativeFrameWords "java/lang/System" "arraycopy" 5 + 11 ≤ 40 := by decide +kernel
  intro H locs ls hP hD hS hll
  refine va_copyi (ty := .int) hx hb (by rw [hml, hll.1]) hown (hts _ w1) (hts _ w2) (hts _ w3) (hts _ w4) hK hP hD hS k0 k1 0 0 he0 he1 rfl rfl rfl (by decide) (by decide) (by rw [zI_z, zI_lt (by omega) (by omega)]; omega) (by rw [hz, hn]; omega) (by rw [hz, hn]; omega) (fun _ _ => rfl) (by omega) (by omega) hd ?_
  have hf : va_cpy (zR f) (zR g) (zI 0).toNatClampNeg (zI 0).toNatClampNeg (zI (ln : Int)).toNatClampNeg = zR (fun j => if j < ln then f j else g j) := by
    rw [hz, hn]; funext j
    simp only [va_cpy, zR]
    by_cases h : j < ln
    · simp [h]
    · simp [h]
  rw [hf, h2]
  exact fun H1 locs1 hP hD hS => kk H1 locs1 ls hP hD hS hll
theorem zg_mmax {X : gT} {l : Launch} {D : va_G} {cI : ClassId} {own : String} {cc : ByteArray} {nL lvl mc ms k n : Nat} {ws : va_W} {lv : List (Nat × Value)} {pc : Nat} {st : List Value} (hX : OKB X l D cI own cc nL lvl mc ms) {a b : Int} {idx : Nat} (ha : -2147483648 ≤ a ∧ a < 2147483648) (hb2 : -2147483648 ≤ b ∧ b < 2147483648) (w1 : Cond.methodLink own idx Lib.Math.max.name ∈ lw_u) (w2 : Cond.static Lib.Math.max.name ∈ lw_u) (w3 : Cond.initialized "java/lang/Math" ∈ lw_u) (w4 : Cond.code Lib.Math.max.name Lib.Math.max.code 2 (some .int) ∈ lw_u) (hlv : 1 ≤ lvl) (hk : k ≤ mc) (hn : n ≤ ms) (hcat : (st.map fun v => v.category).sum ≤ 8) (hd : decode cc pc = .ok (.invokestatic idx, 3)) (q : Nat) (hq : pc + 3 = q) (kk : G X nL k n ws lv q (.int (zI (if a < b then b else a)) :: st)) : G X nL k n ws lv pc (.int (zI b) :: .int (zI a) :: st) := by
  obtain ⟨p, l', e, R, s, m, args, below, meth, c, D', cI', A, Q⟩ := X
  obtain ⟨rfl, rfl, rfl, hx, hb, hml, hown, hts, hK, hA, hfr, hlo, hmc, hms, hst, hns⟩ := hX
  subst hq
  intro H locs ls hP hD hS hl
  refine va_mmax hx hb (by rw [hml, hl.1]) hown (hts _ w1) (hts _ w2) (hts _ w3) (hts _ w4) (by omega) (by omega) (by omega) (by omega) hd ?_
  have h : (if zI a < zI b then zI b else zI a) = zI (if a < b then b else a) := by
    simp only [zI_lt ha hb2]; split <;> rfl
  rw [h]
  exact kk H locs ls hP hD hS hl
theorem zg_mmin {X : gT} {l : Launch} {D : va_G} {cI : ClassId} {own : String} {cc : ByteArray} {nL lvl mc ms k n : Nat} {ws : va_W} {lv : List (Nat × Value)} {pc : Nat} {st : List Value} (hX : OKB X l D cI own cc nL lvl mc ms) {a b : Int} {idx : Nat} (ha : -2147483648 ≤ a ∧ a < 2147483648) (hb2 : -2147483648 ≤ b ∧ b < 2147483648) (w1 : Cond.methodLink own idx Lib.Math.min.name ∈ lw_u) (w2 : Cond.static Lib.Math.min.name ∈ lw_u) (w3 : Cond.initialized "java/lang/Math" ∈ lw_u) (w4 : Cond.code Lib.Math.min.name Lib.Math.min.code 2 (some .int) ∈ lw_u) (hlv : 1 ≤ lvl) (hk : k ≤ mc) (hn : n ≤ ms) (hcat : (st.map fun v => v.category).sum ≤ 8) (hd : decode cc pc = .ok (.invokestatic idx, 3)) (q : Nat) (hq : pc + 3 = q) (kk : G X nL k n ws lv q (.int (zI (if b < a then b else a)) :: st)) : G X nL k n ws lv pc (.int (zI b) :: .int (zI a) :: st) := by
  obtain ⟨p, l', e, R, s, m, args, below, meth, c, D', cI', A, Q⟩ := X
  obtain ⟨rfl, rfl, rfl, hx, hb, hml, hown, hts, hK, hA, hfr, hlo, hmc, hms, hst, hns⟩ := hX
  subst hq
  intro H locs ls hP hD hS hl
  refine va_mmin hx hb (by rw [hml, hl.1]) hown (hts _ w1) (hts _ w2) (hts _ w3) (hts _ w4) (by omega) (by omega) (by omega) (by omega) hd ?_
  have h : (if zI b < zI a then zI b else zI a) = zI (if b < a then b else a) := by
    simp only [zI_lt hb2 ha]; split <;> rfl
  rw [h]
  exact kk H locs ls hP hD hS hl
def isSt (X : gT) (ty : FieldType) (N : Nat) (f : Nat → Int) (t : Nat) : Prop := match X with
  | (_, _, _, _, s, _, _, _, _, _, _, _, A, _) => va_T ty t N (fun j => .int (zI (f j))) A s s.heap
theorem zg_gets_SORT_LETTERS {X : gT} {l : Launch} {D : va_G} {cI : ClassId} {own : String} {cc : ByteArray} {nL lvl mc ms k n : Nat} {ws : va_W} {lv : List (Nat × Value)} {pc : Nat} {st : List Value} (hX : OKB X l D cI own cc nL lvl mc ms) {idx : Nat} {host : String} (hw : Cond.fieldLinkNest own idx RX9 "SORT_LETTERS" "[C" host ∈ nws) (hd : decode cc pc = .ok (.getstatic idx, 3)) (q : Nat) (hq : pc + 3 = q) (kk : ∀ t : Nat, isSt X .char 4 sL t → G X nL k n ws lv q (.ref t :: st)) : G X nL k n ws lv pc st := by
  obtain ⟨p, l', e, R, s, m, args, below, meth, c, D', cI', A, Q⟩ := X
  obtain ⟨rfl, rfl, rfl, hx, hb, hml, hown, hts, hK, hA, hfr, hlo, hmc, hms, hst, hns⟩ := hX
  subst hq
  obtain ⟨⟨t, hZ, hT⟩, -, -⟩ := hst
  intro H locs ls hP hD hS hl
  exact va_getsN hx hb hZ hS hown (va_Nw.use rfl (hns _ hw)) (fun _ h9 => h9) hd (kk t hT H locs ls hP hD hS hl)
theorem zg_gets_MOST_TAKEN {X : gT} {l : Launch} {D : va_G} {cI : ClassId} {own : String} {cc : ByteArray} {nL lvl mc ms k n : Nat} {ws : va_W} {lv : List (Nat × Value)} {pc : Nat} {st : List Value} (hX : OKB X l D cI own cc nL lvl mc ms) {idx : Nat} {host : String} (hw : Cond.fieldLinkNest own idx RX9 "MOST_TAKEN" "[I" host ∈ nws) (hd : decode cc pc = .ok (.getstatic idx, 3)) (q : Nat) (hq : pc + 3 = q) (kk : ∀ t : Nat, isSt X .int 5 mT t → G X nL k n ws lv q (.ref t :: st)) : G X nL k n ws lv pc st := by
  obtain ⟨p, l', e, R, s, m, args, below, meth, c, D', cI', A, Q⟩ := X
  obtain ⟨rfl, rfl, rfl, hx, hb, hml, hown, hts, hK, hA, hfr, hlo, hmc, hms, hst, hns⟩ := hX
  subst hq
  obtain ⟨-, ⟨t, hZ, hT⟩, -⟩ := hst
  intro H locs ls hP hD hS hl
  exact va_getsN hx hb hZ hS hown (va_Nw.use rfl (hns _ hw)) (fun _ h9 => h9) hd (kk t hT H locs ls hP hD hS hl)
theorem zg_gets_SORT_TIRES {X : gT} {l : Launch} {D : va_G} {cI : ClassId} {own : String} {cc : ByteArray} {nL lvl mc ms k n : Nat} {ws : va_W} {lv : List (Nat × Value)} {pc : Nat} {st : List Value} (hX : OKB X l D cI own cc nL lvl mc ms) {idx : Nat} {host : String} (hw : Cond.fieldLinkNest own idx RX9 "SORT_TIRES" "[I" host ∈ nws) (hd : decode cc pc = .ok (.getstatic idx, 3)) (q : Nat) (hq : pc + 3 = q) (kk : ∀ t : Nat, isSt X .int 4 sT t → G X nL k n ws lv q (.ref t :: st)) : G X nL k n ws lv pc st := by
  obtain ⟨p, l', e, R, s, m, args, below, meth, c, D', cI', A, Q⟩ := X
  obtain ⟨rfl, rfl, rfl, hx, hb, hml, hown, hts, hK, hA, hfr, hlo, hmc, hms, hst, hns⟩ := hX
  subst hq
  obtain ⟨-, -, t, hZ, hT⟩ := hst
  intro H locs ls hP hD hS hl
  exact va_getsN hx hb hZ hS hown (va_Nw.use rfl (hns _ hw)) (fun _ h9 => h9) hd (kk t hT H locs ls hP hD hS hl)
theorem zg_ti {X : gT} {l : Launch} {D : va_G} {cI : ClassId} {own : String} {cc : ByteArray} {nL lvl mc ms k n : Nat} {ws : va_W} {lv : List (Nat × Value)} {pc : Nat} {st : List Value} (hX : OKB X l D cI own cc nL lvl mc ms) {i : Int} {N t : Nat} {f : Nat → Int} (hT : isSt X .int N f t) (hN : N < 1000) (j : Nat) (hi : i = (j : Int)) (hj : j < N) (hd : decode cc pc = .ok (.iaload, 1)) (q : Nat) (hq : pc + 1 = q) (kk : G X nL k n ws lv q (.int (zI (f j)) :: st)) : G X nL k n ws lv pc (.int (zI i) :: .ref t :: st) := by
  obtain ⟨p, l', e, R, s, m, args, below, meth, c, D', cI', A, Q⟩ := X
  obtain ⟨rfl, rfl, rfl, hx, hb, hml, hown, hts, hK, hA, hfr, hlo, hmc, hms, hst, hns⟩ := hX
  subst hq
  intro H locs ls hP hD hS hl
  exact va_ti hx hb hT hS (zI_in j hi hj hN) (by rw [zI_cl j hi (by omega)]) hd (kk H locs ls hP hD hS hl)
theorem zg_tc {X : gT} {l : Launch} {D : va_G} {cI : ClassId} {own : String} {cc : ByteArray} {nL lvl mc ms k n : Nat} {ws : va_W} {lv : List (Nat × Value)} {pc : Nat} {st : List Value} (hX : OKB X l D cI own cc nL lvl mc ms) {i : Int} {N t : Nat} {f : Nat → Int} (hT : isSt X .char N f t) (hN : N < 1000) (j : Nat) (hi : i = (j : Int)) (hj : j < N) (hd : decode cc pc = .ok (.caload, 1)) (q : Nat) (hq : pc + 1 = q) (kk : G X nL k n ws lv q (.int (zI (f j)) :: st)) : G X nL k n ws lv pc (.int (zI i) :: .ref t :: st) := by
  obtain ⟨p, l', e, R, s, m, args, below, meth, c, D', cI', A, Q⟩ := X
  obtain ⟨rfl, rfl, rfl, hx, hb, hml, hown, hts, hK, hA, hfr, hlo, hmc, hms, hst, hns⟩ := hX
  subst hq
  intro H locs ls hP hD hS hl
  exact va_tc hx hb hT hS (zI_in j hi hj hN) (by rw [zI_cl j hi (by omega)]) hd (kk H locs ls hP hD hS hl)
theorem zg_iret {X : gT} {l : Launch} {D : va_G} {cI : ClassId} {own : String} {cc : ByteArray} {nL lvl mc ms k n : Nat} {ws : va_W} {lv : List (Nat × Value)} {pc : Nat} (hX : OKB X l D cI own cc nL lvl mc ms) {y : MethodName} {ret : Option FieldType} {post : Option Value → va_W → Prop} {mc2 ms2 : Nat} (hR : OKR X y ret mc2 ms2 post) (hk : k ≤ mc2) (hn : n ≤ ms2) {v : Int32} (hr : ret = some .int) (hd : decode cc pc = .ok (.ireturn, 1)) (hp : post (some (.int v)) ws) : G X nL k n ws lv pc [.int v] := by
  obtain ⟨p, l', e, R, s, m, args, below, meth, c, D', cI', A, Q⟩ := X
  obtain ⟨rfl, rfl, rfl, hx, hb, hml, hown, hts, hK, hA, hfr, hlo, hmc, hms, hst, hns⟩ := hX
  obtain ⟨hQ, hrt, hlocks, -⟩ := hR
  subst hQ; subst hr
  intro H locs ls hP hD hS hl
  exact W.widen hk hn (W.iret hx hb hrt (fun t ht hW => ⟨⟨(some (.int v)), ws, rfl, hp, by rw [ht]; exact hP, hD⟩, hS.F ht⟩) hS.2.2 hd hlocks)
theorem zg_lret {X : gT} {l : Launch} {D : va_G} {cI : ClassId} {own : String} {cc : ByteArray} {nL lvl mc ms k n : Nat} {ws : va_W} {lv : List (Nat × Value)} {pc : Nat} (hX : OKB X l D cI own cc nL lvl mc ms) {y : MethodName} {ret : Option FieldType} {post : Option Value → va_W → Prop} {mc2 ms2 : Nat} (hR : OKR X y ret mc2 ms2 post) (hk : k ≤ mc2) (hn : n ≤ ms2) {v : Int64} (hr : ret = some .long) (hd : decode cc pc = .ok (.lreturn, 1)) (hp : post (some (.long v)) ws) : G X nL k n ws lv pc [.long v] := by
  obtain ⟨p, l', e, R, s, m, args, below, meth, c, D', cI', A, Q⟩ := X
  obtain ⟨rfl, rfl, rfl, hx, hb, hml, hown, hts, hK, hA, hfr, hlo, hmc, hms, hst, hns⟩ := hX
  obtain ⟨hQ, hrt, hlocks, -⟩ := hR
  subst hQ; subst hr
  intro H locs ls hP hD hS hl
  exact W.widen hk hn (W.lret hx hb hrt (fun t ht hW => ⟨⟨(some (.long v)), ws, rfl, hp, by rw [ht]; exact hP, hD⟩, hS.F ht⟩) hS.2.2 hd hlocks)
theorem zg_vret {X : gT} {l : Launch} {D : va_G} {cI : ClassId} {own : String} {cc : ByteArray} {nL lvl mc ms k n : Nat} {ws : va_W} {lv : List (Nat × Value)} {pc : Nat} (hX : OKB X l D cI own cc nL lvl mc ms) {y : MethodName} {ret : Option FieldType} {post : Option Value → va_W → Prop} {mc2 ms2 : Nat} (hR : OKR X y ret mc2 ms2 post) (hk : k ≤ mc2) (hn : n ≤ ms2) (hr : ret = none) (hd : decode cc pc = .ok (.return_, 1)) (hp : post none ws) : G X nL k n ws lv pc [] := by
  obtain ⟨p, l', e, R, s, m, args, below, meth, c, D', cI', A, Q⟩ := X
  obtain ⟨rfl, rfl, rfl, hx, hb, hml, hown, hts, hK, hA, hfr, hlo, hmc, hms, hst, hns⟩ := hX
  obtain ⟨hQ, hrt, hlocks, -⟩ := hR
  subst hQ; subst hr
  intro H locs ls hP hD hS hl
  exact W.widen hk hn (W.vret hx hb hrt (fun t ht hW => ⟨⟨none, ws, rfl, hp, by rw [ht]; exact hP, hD⟩, hS.F ht⟩) hS.2.2 hd hlocks)
theorem zg_zret {X : gT} {l : Launch} {D : va_G} {cI : ClassId} {own : String} {cc : ByteArray} {nL lvl mc ms k n : Nat} {ws : va_W} {lv : List (Nat × Value)} {pc : Nat} (hX : OKB X l D cI own cc nL lvl mc ms) {y : MethodName} {ret : Option FieldType} {post : Option Value → va_W → Prop} {mc2 ms2 : Nat} (hR : OKR X y ret mc2 ms2 post) (hk : k ≤ mc2) (hn : n ≤ ms2) {v : Int32} (hnv : narrow .boolean (.int v) = .int v) (hr : ret = some .boolean) (hd : decode cc pc = .ok (.ireturn, 1)) (hp : post (some (.int v)) ws) : G X nL k n ws lv pc [.int v] := by
  obtain ⟨p, l', e, R, s, m, args, below, meth, c, D', cI', A, Q⟩ := X
  obtain ⟨rfl, rfl, rfl, hx, hb, hml, hown, hts, hK, hA, hfr, hlo, hmc, hms, hst, hns⟩ := hX
  obtain ⟨hQ, hrt, hlocks, -⟩ := hR
  subst hQ; subst hr
  intro H locs ls hP hD hS hl
  exact W.widen hk hn (W.zret hx hb hrt hnv (fun t ht hW => ⟨⟨(some (.int v)), ws, rfl, hp, by rw [ht]; exact hP, hD⟩, hS.F ht⟩) hS.2.2 hd hlocks)
section CALLS
variable {p : Program} {l : Launch} {e : Env} {R : Room} {s : State} {m : MethodId} {args : Array Value} {below : List Frame} {meth : Method} {c : Code} {H : Heap} {locs : List Loc} {cells slots : Nat} {Q : State → Prop}
theorem zc_run {pc : Nat} {ls : Array Slot} {rest st0 : List Value} {a : Array Value} {A0 A1 : Nat → Prop} {H0 : Heap} {mc ms : Nat} {free : Addr → Prop} {D : va_G} {cI : ClassId} {post : Option Value → va_W → Prop} (hr : va_Run p l e R s m args below meth c H locs cells slots mc ms (F0 m pc ls st0) rest (cQ D cI A1 post a) free) (hS : va_S A0 H0 H locs) (hA : ∀ q, q < H.size → A1 q → A0 q) (hf : ∀ q, free q → A0 q)
    (kk : ∀ (v : Option Value) (W1 : va_W) (H1 : Heap) (locs1 : List Loc), post v W1 → va_P D vwCl W1 H1 → va_D A1 W1 → H.size ≤ H1.size → (∀ q : Nat, q < H.size → ¬ A1 q → H1[q]? = H[q]?) → va_S A0 H0 H1 locs1 → W p l e R s m args below meth c H1 locs1 (cells + mc) (slots + ms) Q (F0 m (pc + 3) ls (v.toList ++ rest))) : W p l e R s m args below meth c H locs cells slots Q (F0 m pc ls st0) := by
  intro T hT X
  obtain ⟨v, st₀, t, T', L, h0, X', hL, e1, e2, ⟨⟨v2, W1, hv, hp, hP1, hD1⟩, hz, hk⟩, st⟩ := hr T hT X
  cases hv
  rw [h0] at hz hk
  obtain ⟨t2, a1, b1⟩ := kk v W1 T'.heap (locs ++ L) hp (by rw [e1]; exact hP1) hD1 (by rw [e1]; exact hz) (fun q h1 h2 => by rw [e1]; exact hk q h1 h2)
    ⟨Nat.le_trans hS.1 (by rw [e1]; exact hz), fun q h1 h2 => by rw [e1, hk q (Nat.lt_of_lt_of_le h1 hS.1) (fun z => h2 (hA q (Nat.lt_of_lt_of_le h1 hS.1) z))]; exact hS.2.1 q h1 h2, fun q hq => by
      rcases List.mem_append.mp hq with h | h
      · exact hS.2.2 q h
      · exact hf _ (hL q h)⟩ T' rfl X'
  exact ⟨t2, st t2 a1, b1⟩
end CALLS
theorem goodIn_app {big a b : List Cond} (ha : GoodIn big a) (hb : GoodIn big b) : GoodIn big (a ++ b) := fun w h => (List.mem_append.mp h).elim (ha w) (hb w)
theorem zc_good {y : MethodName} {cc : ByteArray} {nL : Nat} {ret : Option FieldType} (w : Cond.code y cc nL ret ∈ lw_u) : GoodIn lw_u (.code y cc nL ret :: lw_u) := by
  intro x hx
  rcases List.mem_cons.mp hx with rfl | h
  · exact ⟨w, good_of_word (lw_ug w)⟩
  · exact ⟨h, good_of_word (lw_ug h)⟩
theorem zc_goodV {own C : String} {idx : Nat} {y : MethodName} {cc : ByteArray} {nL : Nat} {ret : Option FieldType} (w1 : Cond.methodLink own idx y ∈ lw_u) (w2 : Cond.instanceMethod y ∈ lw_u) (w3 : Cond.selects C y y ∈ lw_u) (w4 : Cond.initialized C ∈ lw_u) (w5 : Cond.code y cc nL ret ∈ lw_u) : GoodIn lw_u (wsV own idx C y (.code y cc nL ret :: lw_u)) := by
  refine goodIn_app ?_ (zc_good w5)
  intro x hx
  simp only [List.mem_cons, List.not_mem_nil, or_false] at hx
  rcases hx with rfl | rfl | rfl | rfl
  · exact ⟨w1, good_of_word (lw_ug w1)⟩
  · exact ⟨w2, good_of_word (lw_ug w2)⟩
  · exact ⟨w3, good_of_word (lw_ug w3)⟩
  · exact ⟨w4, good_of_word (lw_ug w4)⟩
theorem zc_goodS {own : String} {idx : Nat} {y : MethodName} {cc : ByteArray} {nL : Nat} {ret : Option FieldType} (w1 : Cond.methodLink own idx y ∈ lw_u) (w2 : Cond.static y ∈ lw_u) (w4 : Cond.initialized y.cls ∈ lw_u) (w5 : Cond.code y cc nL ret ∈ lw_u) : GoodIn lw_u (va_wsS own idx y (.code y cc nL ret :: lw_u)) := by
  refine goodIn_app ?_ (zc_good w5)
  intro x hx
  simp only [List.mem_cons, List.not_mem_nil, or_false] at hx
  rcases hx with rfl | rfl | rfl
  · exact ⟨w1, good_of_word (lw_ug w1)⟩
  · exact ⟨w2, good_of_word (lw_ug w2)⟩
  · exact ⟨w4, good_of_word (lw_ug w4)⟩
theorem zc_blind {av : List Value} {D : va_G} {cI : ClassId} {sz : Nat} {W0 : va_W} : FrameBlind (cP av D cI sz W0) := by
  intro a U g mk h
  obtain ⟨h1, h2, h3, h4, h5, h6, h7⟩ := h
  exact ⟨h1, h2, h3, va_K.moved (u := U) (U := U.calling g mk a) (Vm.Alike.refl U.vm) h4, h5, zst_go h6 (Vm.Alike.refl U.vm) (fun _ _ _ => rfl) (fun _ h => h), nst_same (s := U) rfl h7⟩
theorem zg_callV {X : gT} {l : Launch} {D : va_G} {cI : ClassId} {own : String} {cc : ByteArray} {nL lvl mc ms k n : Nat} {ws : va_W} {lv : List (Nat × Value)} {pc : Nat} {st : List Value} (hX : OKB X l D cI own cc nL lvl mc ms) {yc : MethodName} {cc2 : ByteArray} {nL2 lvl2 idx : Nat} {ret2 : Option FieldType} {As : List Value} {post2 : Option Value → va_W → Prop} {rest : List Value} {k0 ci N b : Nat} {C : String} {T : u_T} {fs : List Value} (hM : Cn l D cI yc cc2 nL2 ret2 lvl2 0 0 (.ref b :: As) ws post2) (w1 : Cond.methodLink own idx yc ∈ lw_u) (w2 : Cond.instanceMethod yc ∈ lw_u) (w3 : Cond.selects C yc yc ∈ lw_u) (w4 : Cond.initialized C ∈ lw_u) (w5 : Cond.code yc cc2 nL2 ret2 ∈ lw_u) (hs : yc.cls = C ∧ yc.cls ≠ "java/lang/invoke/MethodHandle" ∧ yc.cls ≠ "java/lang/invoke/VarHandle" ∧ (parseMethodDescriptor yc.desc).map (fun d => d.parameters.length) = some As.length) (hlv : lvl2 < lvl) (hnl : nL2 ≤ 45) (hk : k ≤ mc) (hn : n ≤ ms) (he : ws[k0]? = some (b, .inr (ci, fs))) (hc : vwCl[ci]? = some (C, T, N)) (hst2 : st = As.reverse ++ .ref b :: rest) (hcat : (rest.map fun v => v.category).sum ≤ 8) (hd : decode cc pc = .ok (.invokevirtual idx, 3)) (q : Nat) (hq : pc + 3 = q) (kk : ∀ v W1, post2 v W1 → G X nL k n W1 lv q (v.toList ++ rest)) : G X nL k n ws lv pc st := by
  obtain ⟨p, l', e, R, s, m, args, below, meth, c, D', cI', A, Q⟩ := X
  obtain ⟨rfl, rfl, rfl, hx, hb, hml, hown, hts, hK, hA, hfr, hlo, hmc, hms, hst, hns⟩ := hX
  subst hq
  intro H locs ls hP hD hS hl
  have hFc : ∀ q, va_A ws H.size q → A q := fun q h => by
    rcases h with ⟨z, e, h⟩ | h
    · exact hD.2 z _ h
    · exact hA q (Nat.le_trans hS.1 h)
  exact zc_run (va_runV (As := As) (rest := rest) ⟨hx, hb, hml, hown, hts⟩ (hM H.size) (cwV As.length hts (zc_goodV w1 w2 w3 w4 w5) rfl rfl rfl hs ⟨by show lvl2 + 1 ≤ R.frames; omega, by show 8 + (nL2 + 11) + 64 * lvl2 ≤ R.locals; omega⟩) ⟨zc_blind, va_recv hK hP hc he, (fun U hU hW => ⟨rfl, by rw [hU], by rw [hU]; exact hP, va_K.moved hW.alike hK, hD.weaken (fun _ _ _ _ => trivial), by rw [hU]; exact zst_go hst hW.alike (fun a h1 h2 => hS.2.1 a h1 h2) hFc, nst_warm hW hns⟩)⟩ rfl rfl hl.1 hst2 (lv_room hcat) hd ⟨by omega, by omega⟩) hS (fun q _ h => hFc q h) hFc (fun v W1 H1 locs1 hp hP1 hD1 _ _ hS1 => kk v W1 hp H1 locs1 ls hP1 (hD1.weaken (fun _ q _ h => hFc _ h)) hS1 hl)
theorem zg_callS {X : gT} {l : Launch} {D : va_G} {cI : ClassId} {own : String} {cc : ByteArray} {nL lvl mc ms k n : Nat} {ws : va_W} {lv : List (Nat × Value)} {pc : Nat} {st : List Value} (hX : OKB X l D cI own cc nL lvl mc ms) {yc : MethodName} {cc2 : ByteArray} {nL2 lvl2 idx : Nat} {ret2 : Option FieldType} {As : List Value} {post2 : Option Value → va_W → Prop} {rest : List Value} (hM : Cn l D cI yc cc2 nL2 ret2 lvl2 0 0 As ws post2) (w1 : Cond.methodLink own idx yc ∈ lw_u) (w2 : Cond.static yc ∈ lw_u) (w4 : Cond.initialized yc.cls ∈ lw_u) (w5 : Cond.code yc cc2 nL2 ret2 ∈ lw_u) (hs : yc.cls ≠ "java/lang/invoke/MethodHandle" ∧ yc.cls ≠ "java/lang/invoke/VarHandle" ∧ (parseMethodDescriptor yc.desc).map (fun d => d.parameters.length) = some As.length) (hlv : lvl2 < lvl) (hnl : nL2 ≤ 45) (hk : k ≤ mc) (hn : n ≤ ms) (hst2 : st = As.reverse ++ rest) (hcat : (rest.map fun v => v.category).sum ≤ 8) (hd : decode cc pc = .ok (.invokestatic idx, 3)) (q : Nat) (hq : pc + 3 = q) (kk : ∀ v W1, post2 v W1 → G X nL k n W1 lv q (v.toList ++ rest)) : G X nL k n ws lv pc st := by
  obtain ⟨p, l', e, R, s, m, args, below, meth, c, D', cI', A, Q⟩ := X
  obtain ⟨rfl, rfl, rfl, hx, hb, hml, hown, hts, hK, hA, hfr, hlo, hmc, hms, hst, hns⟩ := hX
  subst hq
  intro H locs ls hP hD hS hl
  have hFc : ∀ q, va_A ws H.size q → A q := fun q h => by
    rcases h with ⟨z, e, h⟩ | h
    · exact hD.2 z _ h
    · exact hA q (Nat.le_trans hS.1 h)
  exact zc_run (va_runS (As := As) (rest := rest) ⟨hx, hb, hml, hown, hts⟩ (hM H.size) (va_cwS As.length hts (zc_goodS w1 w2 w4 w5) rfl rfl rfl hs ⟨by show lvl2 + 1 ≤ R.frames; omega, by show 8 + (nL2 + 11) + 64 * lvl2 ≤ R.locals; omega⟩) ⟨zc_blind, (fun U hU hW => ⟨rfl, by rw [hU], by rw [hU]; exact hP, va_K.moved hW.alike hK, hD.weaken (fun _ _ _ _ => trivial), by rw [hU]; exact zst_go hst hW.alike (fun a h1 h2 => hS.2.1 a h1 h2) hFc, nst_warm hW hns⟩)⟩ rfl rfl hl.1 hst2 (lv_room hcat) hd ⟨by omega, by omega⟩) hS (fun q _ h => hFc q h) hFc (fun v W1 H1 locs1 hp hP1 hD1 _ _ hS1 => kk v W1 hp H1 locs1 ls hP1 (hD1.weaken (fun _ q _ h => hFc _ h)) hS1 hl)
theorem zg_callSN {X : gT} {l : Launch} {D : va_G} {cI : ClassId} {own : String} {cc : ByteArray} {nL lvl mc ms k n : Nat} {ws : va_W} {lv : List (Nat × Value)} {pc : Nat} {st : List Value} (hX : OKB X l D cI own cc nL lvl mc ms) {yc : MethodName} {cc2 : ByteArray} {nL2 lvl2 idx : Nat} {ret2 : Option FieldType} {As : List Value} {post2 : Option Value → va_W → Prop} {rest : List Value} {host : String} (hM : Cn l D cI yc cc2 nL2 ret2 lvl2 0 0 As ws post2) (w1 : Cond.methodLinkNest own idx yc host ∈ nws) (w2 : Cond.static yc ∈ lw_u) (w4 : Cond.initialized yc.cls ∈ lw_u) (w5 : Cond.code yc cc2 nL2 ret2 ∈ lw_u) (hs : yc.cls ≠ "java/lang/invoke/MethodHandle" ∧ yc.cls ≠ "java/lang/invoke/VarHandle" ∧ (parseMethodDescriptor yc.desc).map (fun d => d.parameters.length) = some As.length) (hlv : lvl2 < lvl) (hnl : nL2 ≤ 45) (hk : k ≤ mc) (hn : n ≤ ms) (hst2 : st = As.reverse ++ rest) (hcat : (rest.map fun v => v.category).sum ≤ 8) (hd : decode cc pc = .ok (.invokestatic idx, 3)) (q : Nat) (hq : pc + 3 = q) (kk : ∀ v W1, post2 v W1 → G X nL k n W1 lv q (v.toList ++ rest)) : G X nL k n ws lv pc st := by
  obtain ⟨p, l', e, R, s, m, args, below, meth, c, D', cI', A, Q⟩ := X
  obtain ⟨rfl, rfl, rfl, hx, hb, hml, hown, hts, hK, hA, hfr, hlo, hmc, hms, hst, hns⟩ := hX
  subst hq
  intro H locs ls hP hD hS hl
  have hFc : ∀ q, va_A ws H.size q → A q := fun q h => by
    rcases h with ⟨z, e, h⟩ | h
    · exact hD.2 z _ h
    · exact hA q (Nat.le_trans hS.1 h)
  exact zc_run (va_runSN (As := As) (rest := rest) ⟨hx, hb, hml, hown, hts⟩ (hM H.size) ⟨va_cnB As.length hts (zc_good w5) rfl rfl rfl (hns _ w1) (hts _ w4) hs ⟨by show lvl2 + 1 ≤ R.frames; omega, by show 8 + (nL2 + 11) + 64 * lvl2 ≤ R.locals; omega⟩, hts _ w2, trivial⟩ ⟨zc_blind, (fun U hU hW => ⟨rfl, by rw [hU], by rw [hU]; exact hP, va_K.moved hW.alike hK, hD.weaken (fun _ _ _ _ => trivial), by rw [hU]; exact zst_go hst hW.alike (fun a h1 h2 => hS.2.1 a h1 h2) hFc, nst_warm hW hns⟩)⟩ rfl rfl hl.1 hst2 (lv_room hcat) hd ⟨by omega, by omega⟩) hS (fun q _ h => hFc q h) hFc (fun v W1 H1 locs1 hp hP1 hD1 _ _ hS1 => kk v W1 hp H1 locs1 ls hP1 (hD1.weaken (fun _ q _ h => hFc _ h)) hS1 hl)
def pI (E : Int) (W0 : va_W) : Option Value → va_W → Prop := fun v W1 => v = some (.int (zI E)) ∧ W1 = W0
theorem pI_of {a E : Int} {W0 : va_W} (h : a = E) : pI E W0 (some (.int (zI a))) W0 := by subst h; exact ⟨rfl, rfl⟩
def pB (E : Bool) (W0 : va_W) : Option Value → va_W → Prop := pI (b2 E) W0
theorem pB_t {E : Bool} {W0 : va_W} (h : E = true) : pI (b2 E) W0 (some (.int (zI 1))) W0 := by subst h; exact ⟨rfl, rfl⟩
theorem pB_f {E : Bool} {W0 : va_W} (h : E = false) : pI (b2 E) W0 (some (.int (zI 0))) W0 := by subst h; exact ⟨rfl, rfl⟩
/-- the answer and the world's numbers then -/
def pC (W0 : (Nat → Int) → (Nat → Nat → Int) → va_W) (P : Option Value → (Nat → Int) → (Nat → Nat → Int) → Prop) : Option Value → va_W → Prop := fun v W1 => ∃ f1 r1, W1 = W0 f1 r1 ∧ P v f1 r1
theorem zg_callVi {X : gT} {l : Launch} {D : va_G} {cI : ClassId} {own : String} {cc : ByteArray} {nL lvl mc ms k n : Nat} {ws : va_W} {lv : List (Nat × Value)} {pc : Nat} {st : List Value} (hX : OKB X l D cI own cc nL lvl mc ms) {yc : MethodName} {cc2 : ByteArray} {nL2 lvl2 idx : Nat} {ret2 : Option FieldType} {As : List Value} {E : Int} {rest : List Value} {k0 ci N b : Nat} {C : String} {T : u_T} {fs : List Value} (hM : Cn l D cI yc cc2 nL2 ret2 lvl2 0 0 (.ref b :: As) ws (pI E ws)) (w1 : Cond.methodLink own idx yc ∈ lw_u) (w2 : Cond.instanceMethod yc ∈ lw_u) (w3 : Cond.selects C yc yc ∈ lw_u) (w4 : Cond.initialized C ∈ lw_u) (w5 : Cond.code yc cc2 nL2 ret2 ∈ lw_u) (hs : yc.cls = C ∧ yc.cls ≠ "java/lang/invoke/MethodHandle" ∧ yc.cls ≠ "java/lang/invoke/VarHandle" ∧ (parseMethodDescriptor yc.desc).map (fun d => d.parameters.length) = some As.length) (hlv : lvl2 < lvl) (hnl : nL2 ≤ 45) (hk : k ≤ mc) (hn : n ≤ ms) (he : ws[k0]? = some (b, .inr (ci, fs))) (hc : vwCl[ci]? = some (C, T, N)) (hst2 : st = As.reverse ++ .ref b :: rest) (hcat : (rest.map fun v => v.category).sum ≤ 8) (hd : decode cc pc = .ok (.invokevirtual idx, 3)) (q : Nat) (hq : pc + 3 = q) (kk : G X nL k n ws lv q (.int (zI E) :: rest)) : G X nL k n ws lv pc st := zg_callV hX hM w1 w2 w3 w4 w5 hs hlv hnl hk hn he hc hst2 hcat hd q hq (fun v W1 hp => by obtain ⟨rfl, rfl⟩ := hp; exact kk)
theorem zg_callSi {X : gT} {l : Launch} {D : va_G} {cI : ClassId} {own : String} {cc : ByteArray} {nL lvl mc ms k n : Nat} {ws : va_W} {lv : List (Nat × Value)} {pc : Nat} {st : List Value} (hX : OKB X l D cI own cc nL lvl mc ms) {yc : MethodName} {cc2 : ByteArray} {nL2 lvl2 idx : Nat} {ret2 : Option FieldType} {As : List Value} {E : Int} {rest : List Value} (hM : Cn l D cI yc cc2 nL2 ret2 lvl2 0 0 As ws (pI E ws)) (w1 : Cond.methodLink own idx yc ∈ lw_u) (w2 : Cond.static yc ∈ lw_u) (w4 : Cond.initialized yc.cls ∈ lw_u) (w5 : Cond.code yc cc2 nL2 ret2 ∈ lw_u) (hs : yc.cls ≠ "java/lang/invoke/MethodHandle" ∧ yc.cls ≠ "java/lang/invoke/VarHandle" ∧ (parseMethodDescriptor yc.desc).map (fun d => d.parameters.length) = some As.length) (hlv : lvl2 < lvl) (hnl : nL2 ≤ 45) (hk : k ≤ mc) (hn : n ≤ ms) (hst2 : st = As.reverse ++ rest) (hcat : (rest.map fun v => v.category).sum ≤ 8) (hd : decode cc pc = .ok (.invokestatic idx, 3)) (q : Nat) (hq : pc + 3 = q) (kk : G X nL k n ws lv q (.int (zI E) :: rest)) : G X nL k n ws lv pc st := zg_callS hX hM w1 w2 w4 w5 hs hlv hnl hk hn hst2 hcat hd q hq (fun v W1 hp => by obtain ⟨rfl, rfl⟩ := hp; exact kk)
theorem zg_callSNi {X : gT} {l : Launch} {D : va_G} {cI : ClassId} {own : String} {cc : ByteArray} {nL lvl mc ms k n : Nat} {ws : va_W} {lv : List (Nat × Value)} {pc : Nat} {st : List Value} (hX : OKB X l D cI own cc nL lvl mc ms) {yc : MethodName} {cc2 : ByteArray} {nL2 lvl2 idx : Nat} {ret2 : Option FieldType} {As : List Value} {E : Int} {rest : List Value} {host : String} (hM : Cn l D cI yc cc2 nL2 ret2 lvl2 0 0 As ws (pI E ws)) (w1 : Cond.methodLinkNest own idx yc host ∈ nws) (w2 : Cond.static yc ∈ lw_u) (w4 : Cond.initialized yc.cls ∈ lw_u) (w5 : Cond.code yc cc2 nL2 ret2 ∈ lw_u) (hs : yc.cls ≠ "java/lang/invoke/MethodHandle" ∧ yc.cls ≠ "java/lang/invoke/VarHandle" ∧ (parseMethodDescriptor yc.desc).map (fun d => d.parameters.length) = some As.length) (hlv : lvl2 < lvl) (hnl : nL2 ≤ 45) (hk : k ≤ mc) (hn : n ≤ ms) (hst2 : st = As.reverse ++ rest) (hcat : (rest.map fun v => v.category).sum ≤ 8) (hd : decode cc pc = .ok (.invokestatic idx, 3)) (q : Nat) (hq : pc + 3 = q) (kk : G X nL k n ws lv q (.int (zI E) :: rest)) : G X nL k n ws lv pc st := zg_callSN hX hM w1 w2 w4 w5 hs hlv hnl hk hn hst2 hcat hd q hq (fun v W1 hp => by obtain ⟨rfl, rfl⟩ := hp; exact kk)
theorem zg_icb1_eq {X : gT} {l : Launch} {D : va_G} {cI : ClassId} {own : String} {cc : ByteArray} {nL lvl mc ms k n : Nat} {ws : va_W} {lv : List (Nat × Value)} {pc : Nat} {st : List Value} (hX : OKB X l D cI own cc nL lvl mc ms) {b : Bool} {off : Int} (hd : decode cc pc = .ok (.if_icmp .eq off, 3)) (tg : Nat) (ht : (pc : Int) + off = (tg : Int)) (q : Nat) (hq : pc + 3 = q) (kt : b = true → G X nL k n ws lv tg st) (kf : b = false → G X nL k n ws lv q st) : G X nL k n ws lv pc (.int (zI 1) :: .int (zI (b2 b)) :: st) := by
  obtain ⟨p, l', e, R, s, m, args, below, meth, c, D', cI', A, Q⟩ := X
  obtain ⟨rfl, rfl, rfl, hx, hb, hml, hown, hts, hK, hA, hfr, hlo, hmc, hms, hst, hns⟩ := hX
  subst hq
  intro H locs ls hP hD hS hl
  exact lv_icmp_eq (tgt := tg) hx hb hd ht (fun h => kt (by revert h; cases b <;> decide) H locs ls hP hD hS hl) (fun h => kf (by revert h; cases b <;> decide) H locs ls hP hD hS hl)
theorem zg_icb1_ne {X : gT} {l : Launch} {D : va_G} {cI : ClassId} {own : String} {cc : ByteArray} {nL lvl mc ms k n : Nat} {ws : va_W} {lv : List (Nat × Value)} {pc : Nat} {st : List Value} (hX : OKB X l D cI own cc nL lvl mc ms) {b : Bool} {off : Int} (hd : decode cc pc = .ok (.if_icmp .ne off, 3)) (tg : Nat) (ht : (pc : Int) + off = (tg : Int)) (q : Nat) (hq : pc + 3 = q) (kt : b = false → G X nL k n ws lv tg st) (kf : b = true → G X nL k n ws lv q st) : G X nL k n ws lv pc (.int (zI 1) :: .int (zI (b2 b)) :: st) := by
  obtain ⟨p, l', e, R, s, m, args, below, meth, c, D', cI', A, Q⟩ := X
  obtain ⟨rfl, rfl, rfl, hx, hb, hml, hown, hts, hK, hA, hfr, hlo, hmc, hms, hst, hns⟩ := hX
  subst hq
  intro H locs ls hP hD hS hl
  exact lv_icmp_ne (tgt := tg) hx hb hd ht (fun h => kt (by revert h; cases b <;> decide) H locs ls hP hD hS hl) (fun h => kf (by revert h; cases b <;> decide) H locs ls hP hD hS hl)
theorem zg_icb0_eq {X : gT} {l : Launch} {D : va_G} {cI : ClassId} {own : String} {cc : ByteArray} {nL lvl mc ms k n : Nat} {ws : va_W} {lv : List (Nat × Value)} {pc : Nat} {st : List Value} (hX : OKB X l D cI own cc nL lvl mc ms) {b : Bool} {off : Int} (hd : decode cc pc = .ok (.if_icmp .eq off, 3)) (tg : Nat) (ht : (pc : Int) + off = (tg : Int)) (q : Nat) (hq : pc + 3 = q) (kt : b = false → G X nL k n ws lv tg st) (kf : b = true → G X nL k n ws lv q st) : G X nL k n ws lv pc (.int (zI 0) :: .int (zI (b2 b)) :: st) := by
  obtain ⟨p, l', e, R, s, m, args, below, meth, c, D', cI', A, Q⟩ := X
  obtain ⟨rfl, rfl, rfl, hx, hb, hml, hown, hts, hK, hA, hfr, hlo, hmc, hms, hst, hns⟩ := hX
  subst hq
  intro H locs ls hP hD hS hl
  exact lv_icmp_eq (tgt := tg) hx hb hd ht (fun h => kt (by revert h; cases b <;> decide) H locs ls hP hD hS hl) (fun h => kf (by revert h; cases b <;> decide) H locs ls hP hD hS hl)
theorem zg_icb0_ne {X : gT} {l : Launch} {D : va_G} {cI : ClassId} {own : String} {cc : ByteArray} {nL lvl mc ms k n : Nat} {ws : va_W} {lv : List (Nat × Value)} {pc : Nat} {st : List Value} (hX : OKB X l D cI own cc nL lvl mc ms) {b : Bool} {off : Int} (hd : decode cc pc = .ok (.if_icmp .ne off, 3)) (tg : Nat) (ht : (pc : Int) + off = (tg : Int)) (q : Nat) (hq : pc + 3 = q) (kt : b = true → G X nL k n ws lv tg st) (kf : b = false → G X nL k n ws lv q st) : G X nL k n ws lv pc (.int (zI 0) :: .int (zI (b2 b)) :: st) := by
  obtain ⟨p, l', e, R, s, m, args, below, meth, c, D', cI', A, Q⟩ := X
  obtain ⟨rfl, rfl, rfl, hx, hb, hml, hown, hts, hK, hA, hfr, hlo, hmc, hms, hst, hns⟩ := hX
  subst hq
  intro H locs ls hP hD hS hl
  exact lv_icmp_ne (tgt := tg) hx hb hd ht (fun h => kt (by revert h; cases b <;> decide) H locs ls hP hD hS hl) (fun h => kf (by revert h; cases b <;> decide) H locs ls hP hD hS hl)
theorem zg_to {X : gT} {nL k n : Nat} {ws : va_W} {lv : List (Nat × Value)} {pc : Nat} {st : List Value} {ws2 : va_W} {lv2 : List (Nat × Value)} {st2 : List Value} (kk : G X nL k n ws2 lv2 pc st2) (h1 : ws = ws2) (h2 : lv = lv2) (h3 : st = st2) : G X nL k n ws lv pc st := by subst h1; subst h2; subst h3; exact kk
