/-- only rows and numbers of the searches differ -/
def frS (f f1 : Nat → Int) (r r1 : Nat → Nat → Int) : Prop := (∀ j, j < 17 ∨ 22 < j → f1 j = f j) ∧ ∀ j, j < 13 → r1 j = r j
theorem frS_rf (f : Nat → Int) (r : Nat → Nat → Int) : frS f f r r := ⟨fun _ _ => rfl, fun _ _ => rfl⟩
theorem frS.tr {f f1 f2 : Nat → Int} {r r1 r2 : Nat → Nat → Int} (h : frS f f1 r r1) (h2 : frS f1 f2 r1 r2) : frS f f2 r r2 := ⟨fun j hj => (h2.1 j hj).trans (h.1 j hj), fun j hj => (h2.2 j hj).trans (h.2 j hj)⟩
theorem frS.pf {f f1 : Nat → Int} {r r1 : Nat → Nat → Int} (h : frS f f1 r r1) (k : Nat) (x : Int) (hk : 17 ≤ k ∧ k ≤ 22) : frS f (pu f1 k x) r r1 := ⟨fun j hj => by rw [pu_ne _ _ (by omega)]; exact h.1 j hj, h.2⟩
theorem frS.pr {f f1 : Nat → Int} {r r1 : Nat → Nat → Int} (h : frS f f1 r r1) (k : Nat) (x : Nat → Int) (hk : 13 ≤ k) : frS f f1 r (pu r1 k x) := ⟨h.1, fun j hj => by rw [pu_ne _ _ (by omega)]; exact h.2 j hj⟩
theorem cR_fr {f f1 : Nat → Int} {r r1 : Nat → Nat → Int} {ρ : Ru} (h : cR f r ρ) (q : frS f f1 r r1) : cR f1 r1 ρ := by
  unfold cR at *
  rw [q.1 1 (by omega), q.1 2 (by omega), q.1 4 (by omega), q.1 6 (by omega), q.1 7 (by omega), q.2 1 (by omega), q.2 2 (by omega), q.2 3 (by omega)]
  exact h
theorem CRel_fr {f f1 : Nat → Int} {r r1 : Nat → Nat → Int} {σ : Sg} (h : CRel f r σ) (q : frS f f1 r r1) : CRel f1 r1 σ := by
  unfold CRel at *
  rw [q.1 0 (by omega), q.1 1 (by omega), q.1 2 (by omega), q.1 3 (by omega), q.1 4 (by omega), q.1 5 (by omega), q.1 6 (by omega), q.1 7 (by omega), q.1 8 (by omega), q.1 9 (by omega), q.1 10 (by omega), q.1 11 (by omega), q.1 12 (by omega), q.1 13 (by omega), q.1 14 (by omega), q.1 15 (by omega), q.1 16 (by omega), q.1 23 (by omega), q.1 24 (by omega), q.1 25 (by omega), q.1 26 (by omega), q.2 0 (by omega), q.2 1 (by omega), q.2 2 (by omega), q.2 3 (by omega), q.2 4 (by omega), q.2 5 (by omega), q.2 6 (by omega), q.2 7 (by omega), q.2 8 (by omega), q.2 9 (by omega), q.2 10 (by omega), q.2 11 (by omega), q.2 12 (by omega)]
  exact h
theorem gEvC_fr {f f1 : Nat → Int} {r r1 : Nat → Nat → Int} {E : Ev} (h : gEvC (f 3) (f 4) (f 5) (f 6) (f 7) (f 8) (f 9) (r 3) (r 4) (r 5) (r 6) (r 7) E) (q : frS f f1 r r1) : gEvC (f1 3) (f1 4) (f1 5) (f1 6) (f1 7) (f1 8) (f1 9) (r1 3) (r1 4) (r1 5) (r1 6) (r1 7) E := by
  rw [q.1 3 (by omega), q.1 4 (by omega), q.1 5 (by omega), q.1 6 (by omega), q.1 7 (by omega), q.1 8 (by omega), q.1 9 (by omega), q.2 3 (by omega), q.2 4 (by omega), q.2 5 (by omega), q.2 6 (by omega), q.2 7 (by omega)]
  exact h
-- told
theorem ast_so {ρ : Ru} {t tb tl : Nat → Nat} (T : Nat) (h : ∀ k, k < T → tb k < rb ρ) : ast (lsv ρ t (rb ρ)) tb tl T = so ρ t tb tl T := by
  induction T with
  | zero => rfl
  | succ T ih =>
    simp only [ast, so]
    rw [ih (fun k hk => h k (by omega)), lsv_at (h T (by omega))]
-- the most of five
theorem mx_le {c : Nat → Nat} {k i : Nat} (h : i < k) : c i ≤ mx c k := by
  induction k with
  | zero => exact absurd h (Nat.not_lt_zero _)
  | succ k ih =>
    simp only [mx]
    by_cases hi : i = k
    · subst hi; omega
    · have := ih (by omega); omega
theorem mx_ext {c c2 : Nat → Nat} {k : Nat} (h : ∀ i, i < k → c i = c2 i) : mx c k = mx c2 k := by
  induction k with
  | zero => rfl
  | succ k ih => simp only [mx]; rw [ih (fun i hi => h i (by omega)), h k (by omega)]
theorem mx_inc {c c2 : Nat → Nat} {k i : Nat} (hi : i < k) (h : c2 i = c i + 1) (ho : ∀ j, j < k → j ≠ i → c2 j = c j) : mx c2 k = max (mx c k) (c i + 1) := by
  induction k with
  | zero => exact absurd hi (Nat.not_lt_zero _)
  | succ k ih =>
    simp only [mx]
    by_cases hik : i = k
    · subst hik
      rw [mx_ext (fun j hj => ho j (by omega) (by omega)), h]; omega
    · rw [ih (by omega) (fun j hj hne => ho j (by omega) hne), ho k (by omega) (fun e => hik e.symm)]; omega
theorem cn_le (po : Nat → Bool) (L : Nat → Nat) (v k : Nat) : cn po L v k ≤ k := by
  induction k with
  | zero => simp [cn]
  | succ k ih => simp only [cn]; split <;> omega
theorem mx_bd {c : Nat → Nat} {m : Nat} (h : ∀ v, c v ≤ m) (k : Nat) : mx c k ≤ m := by
  induction k with
  | zero => simp [mx]
  | succ k ih => simp only [mx]; have := h k; omega
-- cups: what they cost
def tc (t : Nat → Nat) (c : Nat) : Nat → Nat := if c = 0 then t else rf t (c - 1)
def cmC (ρ : Ru) (rec : (Nat → Nat) → Nat) (b : Nat) (t : Nat → Nat) : Nat → Nat
  | 0 => 100
  | c + 1 => min (cmC ρ rec b t c) (if lo ρ b (if c = 0 then t else rf t (c - 1)) = 0 then min c 1 + rec (be ρ b (if c = 0 then t else rf t (c - 1))) else 100)
def cm (ρ : Ru) : Nat → Nat → (Nat → Nat) → Nat
  | 0, _, _ => 0
  | k + 1, b, t => cmC ρ (fun t2 => cm ρ k (b + 1) t2) b t (rn ρ + 1)
theorem cupC_cost {ρ : Ru} {rec : (Nat → Nat) → Nat → (Nat → Nat) → Nat × (Nat → Nat) → Nat × (Nat → Nat)} {R : (Nat → Nat) → Nat} (H : ∀ t u row (z : Nat × (Nat → Nat)), z.1 ≤ 7 → (rec t u row z).1 = min z.1 (u + R t) ∧ (z.1 ≤ u + R t → rec t u row z = z)) (b : Nat) (t : Nat → Nat) (u : Nat) (row : Nat → Nat) (z : Nat × (Nat → Nat)) (hz : z.1 ≤ 7) (c : Nat) :
    (cupC ρ rec b t u row c z).1 = min z.1 (u + cmC ρ R b t c) ∧ (z.1 ≤ u + cmC ρ R b t c → cupC ρ rec b t u row c z = z) := by
  induction c with
  | zero => exact ⟨by show z.1 = min z.1 (u + 100); omega, fun _ => rfl⟩
  | succ c ih =>
    simp only [cupC, cmC]
    by_cases h : lo ρ b (if c = 0 then t else rf t (c - 1)) = 0
    · rw [if_pos h, if_pos h]
      have q := H (be ρ b (if c = 0 then t else rf t (c - 1))) (u + min c 1) (pu row b c) (cupC ρ rec b t u row c z) (by rw [ih.1]; omega)
      refine ⟨by rw [q.1, ih.1]; omega, fun h2 => ?_⟩
      have e := ih.2 (by omega)
      rw [e] at q ⊢
      exact q.2 (by omega)
    · rw [if_neg h, if_neg h]
      exact ⟨by rw [ih.1]; omega, fun h2 => ih.2 (by omega)⟩
theorem cupF_cost (ρ : Ru) (k b : Nat) (t : Nat → Nat) (u : Nat) (row : Nat → Nat) (z : Nat × (Nat → Nat)) (hz : z.1 ≤ 7) :
    (cupF ρ k b t u row z).1 = min z.1 (u + cm ρ k b t) ∧ (z.1 ≤ u + cm ρ k b t → cupF ρ k b t u row z = z) := by
  induction k generalizing b t u row z with
  | zero =>
    simp only [cupF, cm]
    split
    · exact ⟨by show u = _; omega, fun h => by omega⟩
    · exact ⟨by omega, fun _ => rfl⟩
  | succ k ih =>
    simp only [cupF, cm]
    exact cupC_cost (R := fun t2 => cm ρ k (b + 1) t2) (fun t u row z hz => ih (b + 1) t u row z hz) b t u row z hz _
theorem cupF_7 {ρ : Ru} {k b : Nat} {t : Nat → Nat} {u : Nat} {row : Nat → Nat} {z : Nat × (Nat → Nat)} (hz : z.1 ≤ 7) : (cupF ρ k b t u row z).1 ≤ 7 := by
  rw [(cupF_cost ρ k b t u row z hz).1]; omega
theorem cup_prune {ρ : Ru} {k b : Nat} {t : Nat → Nat} {u : Nat} {row : Nat → Nat} {z : Nat × (Nat → Nat)} (hz : z.1 ≤ 7) (h : z.1 ≤ u) : cupF ρ k b t u row z = z := (cupF_cost ρ k b t u row z hz).2 (by omega)
/-- the ways of one bar, whose rest is cupF k -/
def cupS (ρ : Ru) (k b : Nat) (t : Nat → Nat) (u : Nat) (row : Nat → Nat) (c : Nat) (z : Nat × (Nat → Nat)) : Nat × (Nat → Nat) := cupC ρ (fun t2 u2 row2 z2 => cupF ρ k (b + 1) t2 u2 row2 z2) b t u row c z
theorem cupS_7 {ρ : Ru} {k b : Nat} {t : Nat → Nat} {u : Nat} {row : Nat → Nat} {c : Nat} {z : Nat × (Nat → Nat)} (hz : z.1 ≤ 7) : (cupS ρ k b t u row c z).1 ≤ 7 := by
  unfold cupS
  rw [(cupC_cost (R := fun t2 => cm ρ k (b + 1) t2) (fun t u row z hz => cupF_cost ρ k (b + 1) t u row z hz) b t u row z hz c).1]; omega
theorem cmC_0 {ρ : Ru} {R : (Nat → Nat) → Nat} {b : Nat} {t : Nat → Nat} (h : lo ρ b t = 0) (c : Nat) : cmC ρ R b t (c + 1) ≤ R (be ρ b t) := by
  induction c with
  | zero => simp only [cmC, if_true]; rw [if_pos h]; omega
  | succ c ih => rw [cmC]; omega
theorem rf_same {t : Nat → Nat} {p : Nat} (h : t p = 0) : rf t p = t := by unfold rf; exact pu_same (by omega)
theorem cup_skip {ρ : Ru} {k b : Nat} {t : Nat → Nat} {u : Nat} {row : Nat → Nat} {i : Nat} {z : Nat × (Nat → Nat)} (hz : z.1 ≤ 7) (h : t i = 0) : cupS ρ k b t u row (i + 2) z = cupS ρ k b t u row (i + 1) z := by
  have hc := cupC_cost (ρ := ρ) (R := fun t2 => cm ρ k (b + 1) t2) (fun t u row z hz => cupF_cost ρ k (b + 1) t u row z hz) b t u row z hz (i + 1)
  show cupC ρ _ b t u row (i + 1 + 1) z = _
  rw [cupC]
  rw [if_neg (show ¬ i + 1 = 0 by omega), show i + 1 - 1 = i by omega, rf_same h]
  split
  · next hl =>
    have h1 := cmC_0 (R := fun t2 => cm ρ k (b + 1) t2) hl i
    exact (cupF_cost ρ k (b + 1) (be ρ b t) (u + min (i + 1) 1) (pu row b (i + 1)) _ (by rw [hc.1]; omega)).2 (by rw [hc.1]; omega)
  · rfl
theorem cup_step {ρ : Ru} {k b : Nat} {t : Nat → Nat} {u : Nat} {row : Nat → Nat} {c : Nat} {z : Nat × (Nat → Nat)} : cupS ρ k b t u row (c + 1) z = if lo ρ b (tc t c) = 0 then cupF ρ k (b + 1) (be ρ b (tc t c)) (u + min c 1) (pu row b c) (cupS ρ k b t u row c z) else cupS ρ k b t u row c z := rfl
-- order
theorem ordC_keep {ρ : Ru} {rec : (Nat → Bool) → (Nat → Nat) → Nat → (Nat → Nat) → Nat × (Nat → Nat) → Nat × (Nat → Nat)} {z : Nat × (Nat → Nat)} {lost : Nat} (H : ∀ us t lost2 row, lost ≤ lost2 → rec us t lost2 row z = z) (j : Nat) (us : Nat → Bool) (t : Nat → Nat) (row : Nat → Nat) (b : Nat) : ordC ρ rec j us t lost row b z = z := by
  induction b with
  | zero => rfl
  | succ b ih =>
    simp only [ordC]
    rw [ih]
    split
    · rfl
    · exact H _ _ _ _ (by omega)
theorem ord_prune (ρ : Ru) (k j : Nat) (us : Nat → Bool) (t : Nat → Nat) (lost : Nat) (row : Nat → Nat) (z : Nat × (Nat → Nat)) (h : z.1 ≤ lost) : ordF ρ k j us t lost row z = z := by
  induction k generalizing j us t lost row with
  | zero => simp only [ordF]; rw [if_neg (by omega)]
  | succ k ih =>
    simp only [ordF]
    exact ordC_keep (fun us2 t2 lost2 row2 h2 => ih (j + 1) us2 t2 lost2 row2 (by omega)) j us t row _
def ordS (ρ : Ru) (k j : Nat) (us : Nat → Bool) (t : Nat → Nat) (lost : Nat) (row : Nat → Nat) (b : Nat) (z : Nat × (Nat → Nat)) : Nat × (Nat → Nat) := ordC ρ (fun us2 t2 lost2 row2 z2 => ordF ρ k (j + 1) us2 t2 lost2 row2 z2) j us t lost row b z
theorem ord_step {ρ : Ru} {k j : Nat} {us : Nat → Bool} {t : Nat → Nat} {lost : Nat} {row : Nat → Nat} {b : Nat} {z : Nat × (Nat → Nat)} : ordS ρ k j us t lost row (b + 1) z = if us b = true then ordS ρ k j us t lost row b z else ordF ρ k (j + 1) (pu us b true) (be ρ b t) (lost + lo ρ b t) (pu row j b) (ordS ρ k j us t lost row b z) := rfl
theorem ordF_le {ρ : Ru} {m : Nat} (k j : Nat) (us : Nat → Bool) (t : Nat → Nat) (lost : Nat) (row : Nat → Nat) (z : Nat × (Nat → Nat)) (hz : z.1 ≤ m) : (ordF ρ k j us t lost row z).1 ≤ m := by
  induction k generalizing j us t lost row z with
  | zero => simp only [ordF]; split
            · show lost ≤ m; omega
            · exact hz
  | succ k ih =>
    simp only [ordF]
    have q : ∀ b, (ordC ρ (fun us2 t2 lost2 row2 z2 => ordF ρ k (j + 1) us2 t2 lost2 row2 z2) j us t lost row b z).1 ≤ m := by
      intro b
      induction b with
      | zero => exact hz
      | succ b ihb => simp only [ordC]; split
                      · exact ihb
                      · exact ih _ _ _ _ _ _ ihb
    exact q _
theorem ordS_le {ρ : Ru} {m : Nat} (k j : Nat) (us : Nat → Bool) (t : Nat → Nat) (lost : Nat) (row : Nat → Nat) (z : Nat × (Nat → Nat)) (hz : z.1 ≤ m) (b : Nat) : (ordS ρ k j us t lost row b z).1 ≤ m := by
  induction b with
  | zero => exact hz
  | succ b ih => rw [ord_step]; split
                 · exact ih
                 · exact ordF_le _ _ _ _ _ _ _ ih
-- draws
theorem sdn_lt (s : Nat) : sdn s < 2147483648 := Nat.mod_lt _ (by decide)
theorem zL_low {n k : Nat} (m : Nat) (hm : m = 2 ^ k - 1) : zL (n : Int) &&& zL (m : Int) = zL ((n % 2 ^ k : Nat) : Int) := by
  subst hm
  apply Int64.toBitVec_inj.mp
  show BitVec.ofNat 64 n &&& BitVec.ofNat 64 (2 ^ k - 1) = BitVec.ofNat 64 (n % 2 ^ k)
  apply BitVec.eq_of_getLsbD_eq
  intro i hi
  rw [BitVec.getLsbD_and, BitVec.getLsbD_ofNat, BitVec.getLsbD_ofNat, BitVec.getLsbD_ofNat, Nat.testBit_mod_two_pow, Nat.testBit_two_pow_sub_one]
  cases n.testBit i <;> simp [hi]
/-- how many of four bits -/
def pc4 (n : Nat) : Nat := n % 2 + n / 2 % 2 + n / 4 % 2 + n / 8 % 2
theorem pc4_cw (w : Nat → Bool) : pc4 (mk w 4) = cw w := by
  rw [mk_b4, cw_b]
  exact (by decide +kernel : ∀ a b c d : Bool, pc4 (b4 a b c d) = (if a then 1 else 0) + (if b then 1 else 0) + (if c then 1 else 0) + (if d then 1 else 0)) _ _ _ _
theorem lsv_su {ρ : Ru} (t : Nat → Nat) (i : Nat) : ∀ k, i ≤ k → su (lsv ρ t i) k = su (ls ρ t) i := by
  intro k
  induction k with
  | zero => intro h; rw [show i = 0 by omega]; rfl
  | succ k ih =>
    intro h
    simp only [su]
    by_cases hk : i = k + 1
    · rw [hk]; simp only [su]
      rw [su_ext (s2 := ls ρ t) (fun j hj => lsv_at (by omega)), lsv_at (by omega)]
    · rw [ih (by omega)]
      show _ + (if k < i then _ else 0) = _
      rw [if_neg (by omega)]; rfl
theorem fz_ext {s s2 : Nat → Nat} (m i : Nat) (h : ∀ j, i ≤ j → j < i + m → s j = s2 j) : fz s i m = fz s2 i m := by
  induction m generalizing i with
  | zero => rfl
  | succ m ih =>
    simp only [fz]
    rw [h i (Nat.le_refl _) (by omega), ih (i + 1) (fun j h1 h2 => h j (by omega) (by omega))]
theorem fz_zero {s : Nat → Nat} (m i : Nat) (h : ∀ j, i ≤ j → s j = 0) : fz s i m = -1 := by
  induction m generalizing i with
  | zero => rfl
  | succ m ih =>
    simp only [fz]
    rw [h i (Nat.le_refl _), if_neg (by omega)]
    exact ih (i + 1) (fun j hj => h j (by omega))
theorem fz_cut {s : Nat → Nat} (m n i : Nat) (h : ∀ j, i + m ≤ j → s j = 0) (hn : m ≤ n) : fz s i n = fz s i m := by
  induction m generalizing i n with
  | zero => exact fz_zero n i (fun j hj => h j (by omega))
  | succ m ih =>
    obtain ⟨n, rfl⟩ : ∃ z, n = z + 1 := ⟨n - 1, by omega⟩
    simp only [fz]
    rw [ih n (i + 1) (fun j hj => h j (by omega)) (by omega)]
theorem lsv_fz {ρ : Ru} (t : Nat → Nat) (h : rb ρ ≤ 6) : fz (lsv ρ t (rb ρ)) 0 6 = fz (ls ρ t) 0 (rb ρ) := by
  rw [fz_cut (rb ρ) 6 0 (fun j hj => by show (if j < rb ρ then _ else 0) = 0; rw [if_neg (by omega)]) h]
  exact fz_ext _ _ (fun j _ hj => lsv_at (by omega))
