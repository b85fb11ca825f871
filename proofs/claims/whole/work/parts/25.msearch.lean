-- THE MODEL'S SEARCHES: every row by its number; the same as the walk over the tree of all rows
def gC {S Z : Type} (act : S → Nat → Nat → Option S) (rec : S → (Nat → Nat) → Z → Z) (b : Nat) (s : S) (row : Nat → Nat) : Nat → Z → Z
  | 0, z => z
  | c + 1, z => match act s b c with
    | none => gC act rec b s row c z
    | some s2 => rec s2 (pu row b c) (gC act rec b s row c z)
def gF {S Z : Type} (act : S → Nat → Nat → Option S) (leaf : S → (Nat → Nat) → Z → Z) (m : Nat) : Nat → Nat → S → (Nat → Nat) → Z → Z
  | 0, _, s, row, z => leaf s row z
  | k + 1, b, s, row, z => gC act (fun s2 row2 z2 => gF act leaf m k (b + 1) s2 row2 z2) b s row m z
def gR {S : Type} (act : S → Nat → Nat → Option S) (s0 : S) (row : Nat → Nat) : Nat → Option S
  | 0 => some s0
  | b + 1 => match gR act s0 row b with
    | none => none
    | some s => act s b (row b)
def rwo (m B code : Nat) : Nat → Nat := fun i => if i < B then code / m ^ (B - 1 - i) % m else 0
def gS {S Z : Type} (act : S → Nat → Nat → Option S) (leaf : S → (Nat → Nat) → Z → Z) (s0 : S) (m B code : Nat) (z : Z) : Z := match gR act s0 (rwo m B code) B with
  | none => z
  | some s => leaf s (rwo m B code) z
def gN {S Z : Type} (act : S → Nat → Nat → Option S) (leaf : S → (Nat → Nat) → Z → Z) (s0 : S) (m B s : Nat) : Nat → Z → Z
  | 0, z => z
  | n + 1, z => gS act leaf s0 m B (s + n) (gN act leaf s0 m B s n z)
theorem gN_add {S Z : Type} (act : S → Nat → Nat → Option S) (leaf : S → (Nat → Nat) → Z → Z) (s0 : S) (m B s n1 n2 : Nat) (z : Z) : gN act leaf s0 m B s (n1 + n2) z = gN act leaf s0 m B (s + n1) n2 (gN act leaf s0 m B s n1 z) := by
  induction n2 with
  | zero => rfl
  | succ n2 ih =>
    show gS act leaf s0 m B (s + (n1 + n2)) (gN act leaf s0 m B s (n1 + n2) z) = gS act leaf s0 m B (s + n1 + n2) (gN act leaf s0 m B (s + n1) n2 (gN act leaf s0 m B s n1 z))
    rw [ih, Nat.add_assoc]
theorem gR_ext {S : Type} {act : S → Nat → Nat → Option S} {s0 : S} {row row2 : Nat → Nat} (b : Nat) (h : ∀ i, i < b → row i = row2 i) : gR act s0 row b = gR act s0 row2 b := by
  induction b with
  | zero => rfl
  | succ b ih => simp only [gR]; rw [ih (fun i hi => h i (by omega)), h b (by omega)]
theorem gR_none {S : Type} {act : S → Nat → Nat → Option S} {s0 : S} {row : Nat → Nat} {b : Nat} (h : gR act s0 row b = none) (B : Nat) (hB : b ≤ B) : gR act s0 row B = none := by
  induction B with
  | zero => rw [show b = 0 by omega] at h; exact h
  | succ B ih =>
    by_cases e : b = B + 1
    · rw [← e]; exact h
    · simp only [gR]; rw [ih (by omega)]
theorem rw_lt {m B a b k i : Nat} (hm : 0 < m) (hB : b + k = B) (hi : i < b) : rwo m B (a * m ^ k) i = a / m ^ (b - 1 - i) % m := by
  unfold rwo
  rw [if_pos (by omega), show B - 1 - i = k + (b - 1 - i) by omega, Nat.pow_add, Nat.mul_comm a, Nat.mul_div_mul_left _ _ (Nat.pow_pos hm)]
theorem rw_ge {m B a b k i : Nat} (hm : 0 < m) (hB : b + k = B) (hi : b ≤ i) : rwo m B (a * m ^ k) i = 0 := by
  unfold rwo
  by_cases h : i < B
  · rw [if_pos h, show k = (B - 1 - i) + ((k - 1 - (B - 1 - i)) + 1) by omega, Nat.pow_add, Nat.pow_succ, Nat.mul_comm a, Nat.mul_assoc]
    rw [Nat.mul_div_cancel_left _ (Nat.pow_pos hm), Nat.mul_assoc, Nat.mul_comm m a, ← Nat.mul_assoc, Nat.mul_mod_left]
  · rw [if_neg h]
theorem rw_next {m B a b k c : Nat} (hB : b + 1 + k = B) (hc : c < m) : rwo m B ((a * m + c) * m ^ k) = pu (rwo m B (a * m ^ (k + 1))) b c := by
  have hm : 0 < m := by omega
  funext i
  rw [pu_at]
  by_cases e : i = b
  · rw [if_pos e, e, rw_lt hm hB (by omega), show b + 1 - 1 - b = 0 by omega, Nat.pow_zero, Nat.div_one, Nat.mul_comm, Nat.mul_add_mod, Nat.mod_eq_of_lt hc]
  · rw [if_neg e]
    by_cases h : i < b
    · rw [rw_lt hm hB (by omega), rw_lt hm (show b + (k + 1) = B by omega) h, show b + 1 - 1 - i = (b - 1 - i) + 1 by omega, Nat.pow_succ, Nat.mul_comm (m ^ (b - 1 - i)), ← Nat.div_div_eq_div_mul, Nat.mul_comm a, Nat.mul_add_div hm, Nat.div_eq_of_lt hc, Nat.add_zero]
    · rw [rw_ge hm hB (by omega), rw_ge hm (show b + (k + 1) = B by omega) (by omega)]
theorem gN_all {S Z : Type} (act : S → Nat → Nat → Option S) (leaf : S → (Nat → Nat) → Z → Z) (s0 : S) (m B : Nat) (k : Nat) : ∀ (b a : Nat) (z : Z), b + k = B →
    gN act leaf s0 m B (a * m ^ k) (m ^ k) z = match gR act s0 (rwo m B (a * m ^ k)) b with
      | none => z
      | some s => gF act leaf m k b s (rwo m B (a * m ^ k)) z := by
  induction k with
  | zero =>
    intro b a z hB
    rw [Nat.pow_zero, show b = B by omega]
    show gS act leaf s0 m B (a * 1 + 0) z = _
    rw [Nat.add_zero]
    unfold gS
    cases gR act s0 (rwo m B (a * 1)) B <;> rfl
  | succ k ihk =>
    intro b a z hB
    have blk : ∀ c, c ≤ m → gN act leaf s0 m B (a * m ^ (k + 1)) (c * m ^ k) z = match gR act s0 (rwo m B (a * m ^ (k + 1))) b with
        | none => z
        | some s => gC act (fun s2 row2 z2 => gF act leaf m k (b + 1) s2 row2 z2) b s (rwo m B (a * m ^ (k + 1))) c z := by
      intro c
      induction c with
      | zero =>
        intro _
        rw [Nat.zero_mul]
        cases gR act s0 (rwo m B (a * m ^ (k + 1))) b <;> rfl
      | succ c ih =>
        intro hc
        have e0 : a * m ^ (k + 1) + c * m ^ k = (a * m + c) * m ^ k := by rw [Nat.pow_succ, Nat.add_mul, Nat.mul_assoc, Nat.mul_comm m (m ^ k)]
        rw [Nat.succ_mul, gN_add, ih (by omega), e0, ihk (b + 1) (a * m + c) _ (by omega), rw_next (b := b) (by omega) (by omega)]
        have e1 : gR act s0 (pu (rwo m B (a * m ^ (k + 1))) b c) (b + 1) = match gR act s0 (rwo m B (a * m ^ (k + 1))) b with
            | none => none
            | some s => act s b c := by
          simp only [gR]
          rw [gR_ext (row2 := rwo m B (a * m ^ (k + 1))) b (fun i hi => pu_ne _ _ (by omega)), pu_eq]
        rw [e1]
        cases gR act s0 (rwo m B (a * m ^ (k + 1))) b with
        | none => rfl
        | some s =>
          simp only [gC]
    have hb := blk m (Nat.le_refl _)
    rw [show m * m ^ k = m ^ (k + 1) by rw [Nat.pow_succ, Nat.mul_comm]] at hb
    exact hb
theorem gN_whole {S Z : Type} (act : S → Nat → Nat → Option S) (leaf : S → (Nat → Nat) → Z → Z) (s0 : S) (m B : Nat) (z : Z) : gN act leaf s0 m B 0 (m ^ B) z = gF act leaf m B 0 s0 (fun _ => 0) z := by
  have h := gN_all act leaf s0 m B B 0 0 z (by omega)
  rw [Nat.zero_mul] at h
  rw [h]
  show gF act leaf m B 0 s0 (rwo m B 0) z = _
  rw [show rwo m B 0 = fun _ => 0 from funext (fun i => by unfold rwo; split; rw [Nat.zero_div, Nat.zero_mod]; rfl)]
-- cups
def cA (ρ : Ru) (s : (Nat → Nat) × Nat) (b c : Nat) : Option ((Nat → Nat) × Nat) := if lo ρ b (if c = 0 then s.1 else rf s.1 (c - 1)) = 0 then some (be ρ b (if c = 0 then s.1 else rf s.1 (c - 1)), s.2 + min c 1) else none
def cL (s : (Nat → Nat) × Nat) (row : Nat → Nat) (z : Nat × (Nat → Nat)) : Nat × (Nat → Nat) := if s.2 < z.1 then (s.2, row) else z
theorem cupF_g (ρ : Ru) (k : Nat) : ∀ (b : Nat) (t : Nat → Nat) (u : Nat) (row : Nat → Nat) (z : Nat × (Nat → Nat)), cupF ρ k b t u row z = gF (cA ρ) cL (rn ρ + 1) k b (t, u) row z := by
  induction k with
  | zero => intro b t u row z; rfl
  | succ k ih =>
    intro b t u row z
    have hc : ∀ c, cupC ρ (fun t2 u2 row2 z2 => cupF ρ k (b + 1) t2 u2 row2 z2) b t u row c z = gC (cA ρ) (fun s2 row2 z2 => gF (cA ρ) cL (rn ρ + 1) k (b + 1) s2 row2 z2) b (t, u) row c z := by
      intro c
      induction c with
      | zero => rfl
      | succ c ihc =>
        simp only [cupC, gC]
        rw [ihc]
        by_cases e : lo ρ b (if c = 0 then t else rf t (c - 1)) = 0
        · rw [if_pos e, show cA ρ (t, u) b c = some (be ρ b (if c = 0 then t else rf t (c - 1)), u + min c 1) by unfold cA; rw [if_pos e]]
          exact ih _ _ _ _ _
        · rw [if_neg e, show cA ρ (t, u) b c = none by unfold cA; rw [if_neg e]]
    exact hc (rn ρ + 1)
def cZ (σ : Sg) (n : Nat) : Nat × (Nat → Nat) := gN (cA (sr σ)) cL (st σ, 0) (en (sE σ) + 1) (pb (sP σ)) 0 n (7, fun _ => 0)
theorem cupR_Z (σ : Sg) : cupR σ = cZ σ ((en (sE σ) + 1) ^ pb (sP σ)) := by
  unfold cupR cZ; rw [gN_whole, cupF_g]; rfl
/-- what a row costs; -1: it loses -/
def cpv (σ : Sg) (row : Nat → Nat) : Int := match gR (cA (sr σ)) (st σ, 0) row (pb (sP σ)) with
  | none => -1
  | some s => (s.2 : Int)
theorem cA_le {ρ : Ru} {s0 : Nat → Nat} {row : Nat → Nat} (b : Nat) : ∀ s, gR (cA ρ) (s0, 0) row b = some s → s.2 ≤ b := by
  induction b with
  | zero => intro s h; simp only [gR] at h; cases h; exact Nat.le_refl 0
  | succ b ih =>
    intro s h
    simp only [gR] at h
    cases e : gR (cA ρ) (s0, 0) row b with
    | none => rw [e] at h; cases h
    | some s1 =>
      rw [e] at h
      have h1 := ih s1 e
      by_cases g : lo ρ b (if row b = 0 then s1.1 else rf s1.1 (row b - 1)) = 0
      · have h : cA ρ s1 b (row b) = some s := h
        unfold cA at h; rw [if_pos g] at h; cases h; show s1.2 + min (row b) 1 ≤ b + 1; omega
      · have h : cA ρ s1 b (row b) = some s := h
        unfold cA at h; rw [if_neg g] at h; cases h
theorem cpv_rng (σ : Sg) (row : Nat → Nat) : -1 ≤ cpv σ row ∧ cpv σ row ≤ (pb (sP σ) : Int) := by
  unfold cpv
  cases e : gR (cA (sr σ)) (st σ, 0) row (pb (sP σ)) with
  | none => show (-1 : Int) ≤ -1 ∧ (-1 : Int) ≤ _; omega
  | some s => have := cA_le _ s e; show (-1 : Int) ≤ (s.2 : Int) ∧ (s.2 : Int) ≤ _; omega
theorem cZ_no {σ : Sg} {n : Nat} (h : cpv σ (rwo (en (sE σ) + 1) (pb (sP σ)) n) = -1) : cZ σ (n + 1) = cZ σ n := by
  have e : cZ σ (n + 1) = gS (cA (sr σ)) cL (st σ, 0) (en (sE σ) + 1) (pb (sP σ)) (0 + n) (cZ σ n) := rfl
  rw [e, Nat.zero_add]; unfold gS
  unfold cpv at h
  cases q : gR (cA (sr σ)) (st σ, 0) (rwo (en (sE σ) + 1) (pb (sP σ)) n) (pb (sP σ)) with
  | none => rfl
  | some s => rw [q] at h; have h : (s.2 : Int) = -1 := h; omega
theorem cZ_yes {σ : Sg} {n : Nat} (h : ¬ cpv σ (rwo (en (sE σ) + 1) (pb (sP σ)) n) = -1) : cZ σ (n + 1) = if cpv σ (rwo (en (sE σ) + 1) (pb (sP σ)) n) < ((cZ σ n).1 : Int) then ((cpv σ (rwo (en (sE σ) + 1) (pb (sP σ)) n)).toNat, rwo (en (sE σ) + 1) (pb (sP σ)) n) else cZ σ n := by
  have e : cZ σ (n + 1) = gS (cA (sr σ)) cL (st σ, 0) (en (sE σ) + 1) (pb (sP σ)) (0 + n) (cZ σ n) := rfl
  rw [e, Nat.zero_add]; unfold gS
  unfold cpv at *
  cases q : gR (cA (sr σ)) (st σ, 0) (rwo (en (sE σ) + 1) (pb (sP σ)) n) (pb (sP σ)) with
  | none => rw [q] at h; exact absurd rfl h
  | some s =>
    show (if s.2 < (cZ σ n).1 then (s.2, _) else cZ σ n) = if (s.2 : Int) < ((cZ σ n).1 : Int) then ((s.2 : Int).toNat, _) else cZ σ n
    by_cases g : s.2 < (cZ σ n).1
    · rw [if_pos g, if_pos (by omega), show ((s.2 : Int)).toNat = s.2 by omega]
    · rw [if_neg g, if_neg (by omega)]
/-- the best of them as the model keeps it -/
def bzz (x n : Nat) : Int := if n ≤ x then -1 else (x : Int)
theorem rwo_lt {m B n : Nat} (hm : 0 < m) (i : Nat) : rwo m B n i < m := by
  unfold rwo; split
  · exact Nat.mod_lt _ hm
  · exact hm
theorem pow_6 {m b : Nat} (hm : 0 < m) (h6 : m ≤ 6) (hb : b ≤ 6) : 1 ≤ m ^ b ∧ m ^ b ≤ 46656 := by
  have h1 : 0 < m ^ b := Nat.pow_pos hm
  have h2 : m ^ b ≤ 6 ^ b := Nat.pow_le_pow_left h6 b
  have h3 : 6 ^ b ≤ 6 ^ 6 := Nat.pow_le_pow_right (by decide) hb
  exact ⟨h1, Nat.le_trans h2 h3⟩
-- order
def oA (ρ : Ru) (s : (Nat → Bool) × (Nat → Nat) × Nat) (_j c : Nat) : Option ((Nat → Bool) × (Nat → Nat) × Nat) := if s.1 c = true then none else some (pu s.1 c true, be ρ c s.2.1, s.2.2 + lo ρ c s.2.1)
def oL (s : (Nat → Bool) × (Nat → Nat) × Nat) (row : Nat → Nat) (z : Nat × (Nat → Nat)) : Nat × (Nat → Nat) := if s.2.2 < z.1 then (s.2.2, row) else z
theorem ordF_g (ρ : Ru) (k : Nat) : ∀ (j : Nat) (us : Nat → Bool) (t : Nat → Nat) (u : Nat) (row : Nat → Nat) (z : Nat × (Nat → Nat)), ordF ρ k j us t u row z = gF (oA ρ) oL (rb ρ) k j (us, t, u) row z := by
  induction k with
  | zero => intro j us t u row z; rfl
  | succ k ih =>
    intro j us t u row z
    have hc : ∀ c, ordC ρ (fun us2 t2 lost2 row2 z2 => ordF ρ k (j + 1) us2 t2 lost2 row2 z2) j us t u row c z = gC (oA ρ) (fun s2 row2 z2 => gF (oA ρ) oL (rb ρ) k (j + 1) s2 row2 z2) j (us, t, u) row c z := by
      intro c
      induction c with
      | zero => rfl
      | succ c ihc =>
        simp only [ordC, gC]
        rw [ihc]
        by_cases e : us c = true
        · rw [if_pos e, show oA ρ (us, t, u) j c = none by unfold oA; rw [if_pos e]]
        · rw [if_neg e, show oA ρ (us, t, u) j c = some (pu us c true, be ρ c t, u + lo ρ c t) by unfold oA; rw [if_neg e]]
          exact ih _ _ _ _ _ _
    exact hc (rb ρ)
def oZ (σ : Sg) (n : Nat) : Nat × (Nat → Nat) := gN (oA (sr σ)) oL ((fun _ => false), st σ, 0) (pb (sP σ)) (pb (sP σ)) 0 n (25, fun _ => 0)
theorem ordR_Z (σ : Sg) : ordR σ = oZ σ (pb (sP σ) ^ pb (sP σ)) := by
  unfold ordR oZ; rw [gN_whole, ordF_g]; rfl
/-- who is in the row -/
def uo (row : Nat → Nat) : Nat → Nat → Bool
  | 0 => fun _ => false
  | i + 1 => pu (uo row i) (row i) true
/-- how they play along the row -/
def oT (ρ : Ru) (t : Nat → Nat) (row : Nat → Nat) : Nat → (Nat → Nat) × Nat
  | 0 => (t, 0)
  | i + 1 => (be ρ (row i) (oT ρ t row i).1, (oT ρ t row i).2 + lo ρ (row i) (oT ρ t row i).1)
theorem cu_dup {us : Nat → Bool} {b : Nat} (h : us b = true) (n : Nat) : cu (pu us b true) n = cu us n := by
  unfold cu; exact su_ext (fun i _ => by
    rw [pu_at]; by_cases e : i = b
    · rw [if_pos e, e, h]
    · rw [if_neg e])
theorem uo_le {row : Nat → Nat} {n : Nat} (hr : ∀ i, row i < n) (i : Nat) : cu (uo row i) n ≤ i := by
  induction i with
  | zero => unfold cu uo; rw [show (fun b => if (fun _ : Nat => false) b = true then 1 else 0) = fun _ => 0 from rfl, su_0]; exact Nat.le_refl 0
  | succ i ih =>
    cases e : uo row i (row i) with
    | true => show cu (pu (uo row i) (row i) true) n ≤ _; rw [cu_dup e]; omega
    | false => show cu (pu (uo row i) (row i) true) n ≤ _; rw [cu_set (hr i) e]; omega
theorem gR_o {ρ : Ru} {t : Nat → Nat} {row : Nat → Nat} {n : Nat} (hr : ∀ i, row i < n) (i : Nat) : (gR (oA ρ) ((fun _ => false), t, 0) row i = some (uo row i, oT ρ t row i) ∧ cu (uo row i) n = i) ∨ (gR (oA ρ) ((fun _ => false), t, 0) row i = none ∧ cu (uo row i) n < i) := by
  induction i with
  | zero => exact Or.inl ⟨rfl, Nat.le_zero.mp (uo_le hr 0)⟩
  | succ i ih =>
    have hs : cu (uo row (i + 1)) n = if uo row i (row i) = true then cu (uo row i) n else cu (uo row i) n + 1 := by
      cases e : uo row i (row i) with
      | true => exact cu_dup e n
      | false => exact cu_set (hr i) e
    cases ih with
    | inl h =>
      simp only [gR]; rw [h.1]
      cases e : uo row i (row i) with
      | true => refine Or.inr ⟨?_, ?_⟩
                · show oA ρ (uo row i, oT ρ t row i) i (row i) = none; unfold oA; rw [if_pos e]
                · rw [hs, if_pos e]; omega
      | false => refine Or.inl ⟨?_, ?_⟩
                 · show oA ρ (uo row i, oT ρ t row i) i (row i) = _; unfold oA; rw [if_neg (by rw [show (uo row i, oT ρ t row i).1 (row i) = false from e]; decide)]; rfl
                 · rw [hs, if_neg (by rw [e]; decide)]; omega
    | inr h =>
      refine Or.inr ⟨?_, ?_⟩
      · simp only [gR]; rw [h.1]
      · rw [hs]; split <;> omega
theorem su_full {w : Nat → Bool} (n : Nat) (h : ∀ i, i < n → w i = true) : cu w n = n := by
  induction n with
  | zero => rfl
  | succ n ih => have e := ih (fun i hi => h i (by omega)); unfold cu at *; rw [su_bit, e, h n (by omega)]; rfl
/-- the row is an order: everybody is in it -/
def isO (σ : Sg) (row : Nat → Nat) : Bool := decide (mk (uo row (pb (sP σ))) 6 = 2 ^ pb (sP σ) - 1)
theorem uo_out {row : Nat → Nat} {n : Nat} (hr : ∀ i, row i < n) (i j : Nat) (hj : n ≤ j) : uo row i j = false := by
  induction i with
  | zero => rfl
  | succ i ih => show pu (uo row i) (row i) true j = false; rw [pu_ne _ _ (by have := hr i; omega)]; exact ih
theorem isO_g {σ : Sg} {row : Nat → Nat} (hb : pb (sP σ) ≤ 6) (hr : ∀ i, row i < pb (sP σ)) : (isO σ row = true ∧ gR (oA (sr σ)) ((fun _ => false), st σ, 0) row (pb (sP σ)) = some (uo row (pb (sP σ)), oT (sr σ) (st σ) row (pb (sP σ)))) ∨ (isO σ row = false ∧ gR (oA (sr σ)) ((fun _ => false), st σ, 0) row (pb (sP σ)) = none) := by
  have hbit : ∀ i, (2 ^ pb (sP σ) - 1).testBit i = decide (i < pb (sP σ)) := fun i => Nat.testBit_two_pow_sub_one _ i
  cases gR_o (ρ := sr σ) (t := st σ) hr (pb (sP σ)) with
  | inl h =>
    refine Or.inl ⟨decide_eq_true (Nat.eq_of_testBit_eq (fun i => ?_)), h.1⟩
    rw [mk_bit, hbit]
    by_cases hi : i < pb (sP σ)
    · have : uo row (pb (sP σ)) i = true := by
        cases e : uo row (pb (sP σ)) i with
        | true => rfl
        | false => have := cu_set hi e; have h2 := su_lt (s := fun b => if pu (uo row (pb (sP σ))) i true b = true then 1 else 0) (c := 1) (fun p => by split <;> omega) (pb (sP σ)); unfold cu at *; omega
      rw [this, decide_eq_true hi, decide_eq_true (show i < 6 by omega)]; rfl
    · rw [uo_out hr _ i (by omega), decide_eq_false hi, Bool.and_false]
  | inr h =>
    refine Or.inr ⟨decide_eq_false (fun e => ?_), h.1⟩
    have : cu (uo row (pb (sP σ))) (pb (sP σ)) = pb (sP σ) := su_full _ (fun i hi => by
      have q := hbit i
      rw [← e, mk_bit, decide_eq_true hi, decide_eq_true (show i < 6 by omega)] at q
      simpa using q)
    omega
theorem oZ_no {σ : Sg} {n : Nat} (hb : pb (sP σ) ≤ 6) (h0 : 0 < pb (sP σ)) (h : isO σ (rwo (pb (sP σ)) (pb (sP σ)) n) = false) : oZ σ (n + 1) = oZ σ n := by
  have e : oZ σ (n + 1) = gS (oA (sr σ)) oL ((fun _ => false), st σ, 0) (pb (sP σ)) (pb (sP σ)) (0 + n) (oZ σ n) := rfl
  rw [e, Nat.zero_add]; unfold gS
  cases isO_g hb (row := rwo (pb (sP σ)) (pb (sP σ)) n) (fun i => rwo_lt h0 i) with
  | inl q => rw [q.1] at h; exact absurd h (by decide)
  | inr q => rw [q.2]
theorem oZ_yes {σ : Sg} {n : Nat} (hb : pb (sP σ) ≤ 6) (h0 : 0 < pb (sP σ)) (h : isO σ (rwo (pb (sP σ)) (pb (sP σ)) n) = true) : oZ σ (n + 1) = if (oT (sr σ) (st σ) (rwo (pb (sP σ)) (pb (sP σ)) n) (pb (sP σ))).2 < (oZ σ n).1 then ((oT (sr σ) (st σ) (rwo (pb (sP σ)) (pb (sP σ)) n) (pb (sP σ))).2, rwo (pb (sP σ)) (pb (sP σ)) n) else oZ σ n := by
  have e : oZ σ (n + 1) = gS (oA (sr σ)) oL ((fun _ => false), st σ, 0) (pb (sP σ)) (pb (sP σ)) (0 + n) (oZ σ n) := rfl
  rw [e, Nat.zero_add]; unfold gS
  cases isO_g hb (row := rwo (pb (sP σ)) (pb (sP σ)) n) (fun i => rwo_lt h0 i) with
  | inl q => rw [q.2]; rfl
  | inr q => rw [q.1] at h; exact absurd h (by decide)
theorem oT_le {ρ : Ru} (hρ : RuOK ρ) {t : Nat → Nat} {row : Nat → Nat} (i : Nat) : (oT ρ t row i).2 ≤ 4 * i := by
  induction i with
  | zero => exact Nat.le_refl 0
  | succ i ih => have h := lo_le ρ (row i) (oT ρ t row i).1 hρ; have h2 := hρ.2.2.2.2.2 (row i); simp only [oT]; omega
