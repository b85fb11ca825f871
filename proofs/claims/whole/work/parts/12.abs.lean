-- THE STATE: an evening (players, kinds, tired, took, coffees, told, of which bar, how much, played, lost); a piece (bars, limit, sorts, parts)
abbrev Ev := Nat × (Nat → Nat) × (Nat → Nat) × (Nat → Nat) × (Nat → Nat) × Nat × (Nat → Nat) × (Nat → Nat) × Nat × Nat
def en (E : Ev) : Nat := E.1
def ek (E : Ev) : Nat → Nat := E.2.1
def et (E : Ev) : Nat → Nat := E.2.2.1
def eo (E : Ev) : Nat → Nat := E.2.2.2.1
def ec (E : Ev) : Nat → Nat := E.2.2.2.2.1
def eT (E : Ev) : Nat := E.2.2.2.2.2.1
def eb (E : Ev) : Nat → Nat := E.2.2.2.2.2.2.1
def el (E : Ev) : Nat → Nat := E.2.2.2.2.2.2.2.1
def ep (E : Ev) : Nat := E.2.2.2.2.2.2.2.2.1
def es (E : Ev) : Nat := E.2.2.2.2.2.2.2.2.2
abbrev Pc := Nat × Nat × (Nat → Nat) × (Nat → Nat)
def pb (P : Pc) : Nat := P.1
def pL (P : Pc) : Nat := P.2.1
def ps (P : Pc) : Nat → Nat := P.2.2.1
def pp (P : Pc) : Nat → Nat := P.2.2.2
/-- page's length, page, piece, evening, whether an image is kept, it, pieces read, cups done, orders done -/
abbrev Sg := Nat × (Nat → Nat) × Pc × Ev × Bool × Ev × Nat × Nat × Nat
def sl (σ : Sg) : Nat := σ.1
def sg (σ : Sg) : Nat → Nat := σ.2.1
def sP (σ : Sg) : Pc := σ.2.2.1
def sE (σ : Sg) : Ev := σ.2.2.2.1
def sk (σ : Sg) : Bool := σ.2.2.2.2.1
def sK (σ : Sg) : Ev := σ.2.2.2.2.2.1
def s1 (σ : Sg) : Nat := σ.2.2.2.2.2.2.1
def s2 (σ : Sg) : Nat := σ.2.2.2.2.2.2.2.1
def s3 (σ : Sg) : Nat := σ.2.2.2.2.2.2.2.2
def rho (P : Pc) (E : Ev) : Ru := (pL P, en E, ek E, pb P, ps P, pp P)
def sr (σ : Sg) : Ru := rho (sP σ) (sE σ)
def st (σ : Sg) : Nat → Nat := et (sE σ)
def withE (σ : Sg) (E : Ev) : Sg := (sl σ, sg σ, sP σ, E, sk σ, sK σ, s1 σ, s2 σ, s3 σ)
-- what holds of it
def eOK (P : Pc) (E : Ev) : Prop := en E ≤ 4 ∧ (∀ p, ek E p ≤ 4) ∧ (∀ p, et E p ≤ 9) ∧ (∀ p, en E ≤ p → et E p = 0) ∧ eT E ≤ 6 ∧ (∀ k, el E k ≤ 4) ∧ (∀ k, k < eT E → eb E k < pb P) ∧ ep E ≤ pb P
def pOK (P : Pc) : Prop := pb P ≤ 6 ∧ pL P ≤ 9 ∧ (∀ b, ps P b ≤ 3) ∧ ∀ b, pp P b ≤ 4
/-- so much at most, of what is counted up -/
def eBd (E : Ev) (B : Nat) : Prop := (∀ p, eo E p ≤ 4 * B) ∧ (∀ p, ec E p ≤ B) ∧ es E ≤ 4 * B
def sOK (σ : Sg) (B : Nat) : Prop := sl σ ≤ 22 ∧ (∀ k, sg σ k ≤ 126) ∧ pOK (sP σ) ∧ eOK (sP σ) (sE σ) ∧ (sk σ = true → eOK (sP σ) (sK σ)) ∧ s1 σ ≤ B ∧ s2 σ ≤ 12 ∧ s3 σ ≤ 20 ∧ eBd (sE σ) B ∧ (sk σ = true → eBd (sK σ) B)
theorem rho_OK {P : Pc} {E : Ev} (hP : pOK P) (hE : eOK P E) : RuOK (rho P E) := ⟨hP.2.1, hE.1, hE.2.1, hP.1, hP.2.2.1, hP.2.2.2⟩
theorem rho_tk {P : Pc} {E : Ev} (hE : eOK P E) : tk (rho P E) (et E) := ⟨hE.2.2.1, hE.2.2.2.1⟩
-- how the component and the model hold it
def gPg (len : Int) (a : Nat → Int) (l : Nat) (g : Nat → Nat) : Prop := len = (l : Int) ∧ ∀ k, k < l → a k = (g k : Int)
def gPcC (b L : Int) (so pa : Nat → Int) (P : Pc) : Prop := b = (pb P : Int) ∧ L = (pL P : Int) ∧ (∀ i, i < pb P → so i = (ps P i : Int)) ∧ ∀ i, i < pb P → pa i = (pp P i : Int)
def gPcM (b L : Int) (br : Nat → Int) (P : Pc) : Prop := b = (pb P : Int) ∧ L = (pL P : Int) ∧ (∀ i, i < pb P → br (2 * i) = (ps P i : Int)) ∧ ∀ i, i < pb P → br (2 * i + 1) = (pp P i : Int)
def isK (E : Ev) (c : Nat) (p : Nat) : Bool := decide (p < en E) && decide (ek E p = c)
def gEvC (T n t d s pl lo : Int) (ki co ta tb tl : Nat → Int) (E : Ev) : Prop :=
  T = (eT E : Int) ∧ n = (en E : Int) ∧ t = n6 (et E) ∧ d = ((mk (isK E 2) 4 : Nat) : Int) ∧ s = ((mk (isK E 3) 4 : Nat) : Int) ∧ pl = (ep E : Int) ∧ lo = (es E : Int) ∧
  (∀ p, p < en E → ki p = (ek E p : Int)) ∧ (∀ p, p < en E → co p = (ec E p : Int)) ∧ (∀ p, p < en E → ta p = (eo E p : Int)) ∧ (∀ k, k < eT E → tb k = (eb E k : Int)) ∧ ∀ k, k < eT E → tl k = (el E k : Int)
def gEvM (n pl lo T : Int) (rows tolds : Nat → Int) (E : Ev) : Prop :=
  n = (en E : Int) ∧ pl = (ep E : Int) ∧ lo = (es E : Int) ∧ T = (eT E : Int) ∧
  (∀ p, p < en E → rows (4 * p) = (ek E p : Int)) ∧ (∀ p, p < en E → rows (4 * p + 1) = (et E p : Int)) ∧ (∀ p, p < en E → rows (4 * p + 2) = (eo E p : Int)) ∧ (∀ p, p < en E → rows (4 * p + 3) = (ec E p : Int)) ∧ (∀ k, k < eT E → tolds (2 * k) = (eb E k : Int)) ∧ ∀ k, k < eT E → tolds (2 * k + 1) = (el E k : Int)
def CRel (f : Nat → Int) (r : Nat → Nat → Int) (σ : Sg) : Prop :=
  gPg (f 0) (r 0) (sl σ) (sg σ) ∧ gPcC (f 1) (f 2) (r 1) (r 2) (sP σ) ∧ gEvC (f 3) (f 4) (f 5) (f 6) (f 7) (f 8) (f 9) (r 3) (r 4) (r 5) (r 6) (r 7) (sE σ) ∧
  (sk σ = true → gEvC (f 10) (f 11) (f 12) (f 13) (f 14) (f 15) (f 16) (r 8) (r 9) (r 10) (r 11) (r 12) (sK σ)) ∧ f 23 = b2 (sk σ) ∧ f 24 = (s1 σ : Int) ∧ f 25 = (s2 σ : Int) ∧ f 26 = (s3 σ : Int)
def MRel (f : Nat → Int) (r : Nat → Nat → Int) (σ : Sg) : Prop :=
  gPg (f 0) (r 0) (sl σ) (sg σ) ∧ gPcM (f 4) (f 5) (r 2) (sP σ) ∧ gEvM (f 9) (f 6) (f 7) (f 10) (r 3) (r 4) (sE σ) ∧
  (sk σ = true → gEvM (f 15) (f 16) (f 17) (f 18) (r 11) (r 12) (sK σ)) ∧ f 8 = (s1 σ : Int) ∧ f 11 = (s2 σ : Int) ∧ f 12 = (s3 σ : Int) ∧ (-1 ≤ f 14 ∧ f 14 ≤ (s1 σ : Int) ∧ (f 14 = (s1 σ : Int) ↔ sk σ = true))
theorem cR_of {f : Nat → Int} {r : Nat → Nat → Int} {P : Pc} {E : Ev} (h1 : gPcC (f 1) (f 2) (r 1) (r 2) P) (h2 : gEvC (f 3) (f 4) (f 5) (f 6) (f 7) (f 8) (f 9) (r 3) (r 4) (r 5) (r 6) (r 7) E) : cR f r (rho P E) :=
  ⟨h1.1, h1.2.1, h2.2.1, h2.2.2.2.2.2.2.2.1, h2.2.2.2.1, h2.2.2.2.2.1, h1.2.2.1, h1.2.2.2⟩
theorem mR_of {f : Nat → Int} {r : Nat → Nat → Int} {P : Pc} {E : Ev} (h1 : gPcM (f 4) (f 5) (r 2) P) (h2 : gEvM (f 9) (f 6) (f 7) (f 10) (r 3) (r 4) E) : mR f r (rho P E) :=
  ⟨h1.1, h1.2.1, h2.1, h2.2.2.2.2.1, h1.2.2.1, h1.2.2.2⟩
-- THE PAGE
def soc (c : Nat) : Int := if c = 115 then 0 else if c = 108 then 1 else if c = 97 then 2 else if c = 114 then 3 else -1
theorem soc_rng (c : Nat) : -1 ≤ soc c ∧ soc c ≤ 3 := by unfold soc; repeat' split <;> omega
def okc (g : Nat → Nat) (k : Nat) : Bool :=
  if 2 ≤ k ∧ g (k - 2) = 59 then false
  else if 1 ≤ k ∧ g (k - 1) = 59 then decide (49 ≤ g k ∧ g k ≤ 57)
  else if k % 3 = 0 then decide (¬ soc (g k) = -1)
  else if k % 3 = 1 then decide (49 ≤ g k ∧ g k ≤ 52)
  else decide (g k = 59 ∨ g k = 44 ∧ k / 3 + 1 < 6)
/-- the first of m places from k on that is at fault, or the end -/
def ft (g : Nat → Nat) : Nat → Nat → Nat
  | k, 0 => k
  | k, m + 1 => if okc g k then ft g (k + 1) m else k
theorem ft_rng (g : Nat → Nat) (k m : Nat) : k ≤ ft g k m ∧ ft g k m ≤ k + m := by
  induction m generalizing k with
  | zero => simp [ft]
  | succ m ih => simp only [ft]; split
                 · have := ih (k + 1); omega
                 · omega
def whl (σ : Sg) : Bool := decide (2 ≤ sl σ ∧ sg σ (sl σ - 2) = 59 ∧ ft (sg σ) 0 (sl σ) = sl σ)
def newP (l : Nat) (g : Nat → Nat) : Pc := (min 6 (l / 3), min 9 (g (3 * min 6 (l / 3)) - 48), fun b => (max 0 (soc (g (3 * b)))).toNat, fun b => min 4 (g (3 * b + 1) - 48))
def ev0 : Ev := (0, fun _ => 0, fun _ => 0, fun _ => 0, fun _ => 0, 0, fun _ => 0, fun _ => 0, 0, 0)
-- THE CALLS
def o_letter (σ : Sg) (c : Int) : Sg × Int := if c < 1 ∨ 126 < c then (σ, -102) else if 22 ≤ sl σ then (σ, -104) else ((sl σ + 1, pu (sg σ) (sl σ) c.toNat, σ.2.2), (sl σ : Int) + 1)
def o_blank (σ : Sg) : Sg × Int := ((0, σ.2), (sl σ : Int))
def o_fault (σ : Sg) : Sg × Int := (σ, (ft (sg σ) 0 (sl σ) : Int))
def o_piece (σ : Sg) : Sg × Int := if whl σ then ((0, sg σ, newP (sl σ) (sg σ), ev0, false, sK σ, s1 σ + 1, s2 σ, s3 σ), ((min 6 (sl σ / 3) : Nat) : Int)) else (σ, -103)
def tellB (σ : Sg) (b : Nat) (w : Int) : Int := if w = 0 then (ps (sP σ) b : Int) else if w = 1 then (pp (sP σ) b : Int) else if w = 2 then (ls (sr σ) (st σ) b : Int) else ltl (eb (sE σ)) (el (sE σ)) b (eT (sE σ))
def o_bar (σ : Sg) (b w : Int) : Sg × Int := (σ, if 0 ≤ b ∧ b < (pb (sP σ) : Int) then (if 0 ≤ w ∧ w ≤ 3 then tellB σ b.toNat w else -102) else -101)
def o_player (σ : Sg) (k x : Int) : Sg × Int :=
  if ¬ (0 ≤ k ∧ k ≤ 4) ∨ ¬ (0 ≤ x ∧ x ≤ 9) then (σ, -102) else if pb (sP σ) = 0 then (σ, -103) else if en (sE σ) = 4 then (σ, -104) else
  (withE σ (en (sE σ) + 1, pu (ek (sE σ)) (en (sE σ)) k.toNat, pu (et (sE σ)) (en (sE σ)) x.toNat, pu (eo (sE σ)) (en (sE σ)) 0, pu (ec (sE σ)) (en (sE σ)) 0, (sE σ).2.2.2.2.2), (en (sE σ) : Int))
def shn (σ : Sg) (p : Nat) : Nat := if ep (sE σ) < pb (sP σ) then sh (sr σ) (ep (sE σ)) (st σ) p else 0
def tellP (σ : Sg) (p : Nat) (w : Int) : Int := if w = 0 then (ek (sE σ) p : Int) else if w = 1 then (st σ p : Int) else if w = 2 then b2 (aw (sr σ) (st σ) p) else if w = 3 then b2 (he (sr σ) (st σ) p) else if w = 4 then (shn σ p : Int) else if w = 5 then (eo (sE σ) p : Int) else (ec (sE σ) p : Int)
def o_about (σ : Sg) (p w : Int) : Sg × Int := (σ, if 0 ≤ p ∧ p < (en (sE σ) : Int) then (if 0 ≤ w ∧ w ≤ 6 then tellP σ p.toNat w else -102) else -101)
def o_as (σ : Sg) (p k : Int) : Sg × Int := (σ, if 0 ≤ p ∧ p < (en (sE σ) : Int) then (if 0 ≤ k ∧ k ≤ 4 then (if k = 0 ∨ k = (ek (sE σ) p.toNat : Int) ∨ (k = 1 ∧ ek (sE σ) p.toNat = 4) then p else -1) else -102) else -101)
def setT (E : Ev) (t : Nat → Nat) : Ev := (en E, ek E, t, E.2.2.2)
def o_coffee (σ : Sg) (p : Int) : Sg × Int := if 0 ≤ p ∧ p < (en (sE σ) : Int) then (withE σ (en (sE σ), ek (sE σ), rf (st σ) p.toNat, eo (sE σ), pu (ec (sE σ)) p.toNat (ec (sE σ) p.toNat + 1), (sE σ).2.2.2.2.2), ((st σ p.toNat - 4 : Nat) : Int)) else (σ, -101)
def o_tire (σ : Sg) (p x : Int) : Sg × Int := if 0 ≤ p ∧ p < (en (sE σ) : Int) then (if 0 ≤ x ∧ x ≤ 9 then (withE σ (setT (sE σ) (pu (st σ) p.toNat x.toNat)), (st σ p.toNat : Int)) else (σ, -102)) else (σ, -101)
def o_play (σ : Sg) : Sg × Int := if ep (sE σ) < pb (sP σ) then (withE σ (en (sE σ), ek (sE σ), be (sr σ) (ep (sE σ)) (st σ), fun p => eo (sE σ) p + sh (sr σ) (ep (sE σ)) (st σ) p, ec (sE σ), eT (sE σ), eb (sE σ), el (sE σ), ep (sE σ) + 1, es (sE σ) + lo (sr σ) (ep (sE σ)) (st σ)), (lo (sr σ) (ep (sE σ)) (st σ) : Int)) else (σ, -103)
def setPd (E : Ev) (d : Nat) : Ev := (en E, ek E, et E, eo E, ec E, eT E, eb E, el E, d, es E)
def o_again (σ : Sg) : Sg × Int := if pb (sP σ) = 0 then (σ, -103) else (withE σ (setPd (sE σ) 0), (ep (sE σ) : Int))
def hear0 (σ : Sg) : Int := (su (ls (sr σ) (st σ)) (pb (sP σ)) : Int)
def hear1 (σ : Sg) : Int := fz (ls (sr σ) (st σ)) 0 (pb (sP σ))
def o_hearing (σ : Sg) (w : Int) : Sg × Int := (σ, if 0 ≤ w ∧ w ≤ 1 then (if pb (sP σ) = 0 then -103 else if w = 0 then hear0 σ else hear1 σ) else -102)
def setTold (E : Ev) (T : Nat) (tb tl : Nat → Nat) : Ev := (en E, ek E, et E, eo E, ec E, T, tb, tl, ep E, es E)
def o_tell (σ : Sg) (b x : Int) : Sg × Int := if 0 ≤ b ∧ b < (pb (sP σ) : Int) then (if 0 ≤ x ∧ x ≤ 4 then (if eT (sE σ) = 6 then (σ, -104) else (withE σ (setTold (sE σ) (eT (sE σ) + 1) (pu (eb (sE σ)) (eT (sE σ)) b.toNat) (pu (el (sE σ)) (eT (sE σ)) x.toNat)), (eT (sE σ) : Int) + 1)) else (σ, -102)) else (σ, -101)
def o_forget (σ : Sg) : Sg × Int := (withE σ (setTold (sE σ) 0 (eb (sE σ)) (el (sE σ))), (eT (sE σ) : Int))
-- GUESS, LISTEN
def so (ρ : Ru) (t : Nat → Nat) (tb tl : Nat → Nat) : Nat → Bool
  | 0 => true
  | k + 1 => so ρ t tb tl k && decide (ls ρ t (tb k) = tl k)
def gs (σ : Sg) (p x : Nat) : Bool := so (sr σ) (pu (st σ) p x) (eb (sE σ)) (el (sE σ)) (eT (sE σ))
def gss (σ : Sg) (p : Nat) : Int := ((mk (gs σ p) 10 : Nat) : Int)
def o_guess (σ : Sg) (p : Int) : Sg × Int := (σ, if 0 ≤ p ∧ p < (en (sE σ) : Int) then gss σ p.toNat else -101)
/-- of the first k, how many are so and lose v -/
def cn (po : Nat → Bool) (L : Nat → Nat) (v : Nat) : Nat → Nat
  | 0 => 0
  | k + 1 => cn po L v k + (if po k = true ∧ L k = v then 1 else 0)
/-- the most of the first k -/
def mx (c : Nat → Nat) : Nat → Nat
  | 0 => 0
  | k + 1 => max (mx c k) (c k)
def wo (σ : Sg) (p b : Nat) : Nat := mx (fun v => cn (gs σ p) (fun x => ls (sr σ) (pu (st σ) p x) b) v 10) 5
def bb (w : Nat → Nat) : Nat → Int × Nat
  | 0 => (-1, 11)
  | b + 1 => if w b < (bb w b).2 then ((b : Int), w b) else bb w b
def lis (σ : Sg) (p : Nat) : Int := if mk (gs σ p) 10 = 0 then -1 else (bb (wo σ p) (pb (sP σ))).1
def o_listen (σ : Sg) (p : Int) : Sg × Int := (σ, if 0 ≤ p ∧ p < (en (sE σ) : Int) then lis σ p.toNat else -101)
-- CUPS
/-- all ways for who gets a cup ahead of bar b: 0 nobody, c the player c - 1 -/
def cupC (ρ : Ru) (rec : (Nat → Nat) → Nat → (Nat → Nat) → Nat × (Nat → Nat) → Nat × (Nat → Nat)) (b : Nat) (t : Nat → Nat) (u : Nat) (row : Nat → Nat) : Nat → Nat × (Nat → Nat) → Nat × (Nat → Nat)
  | 0, z => z
  | c + 1, z => if lo ρ b (if c = 0 then t else rf t (c - 1)) = 0 then rec (be ρ b (if c = 0 then t else rf t (c - 1))) (u + min c 1) (pu row b c) (cupC ρ rec b t u row c z) else cupC ρ rec b t u row c z
def cupF (ρ : Ru) : Nat → Nat → (Nat → Nat) → Nat → (Nat → Nat) → Nat × (Nat → Nat) → Nat × (Nat → Nat)
  | 0, _, _, u, row, z => if u < z.1 then (u, row) else z
  | k + 1, b, t, u, row, z => cupC ρ (fun t2 u2 row2 z2 => cupF ρ k (b + 1) t2 u2 row2 z2) b t u row (rn ρ + 1) z
def cupR (σ : Sg) : Nat × (Nat → Nat) := cupF (sr σ) (pb (sP σ)) 0 (st σ) 0 (fun _ => 0) (7, fun _ => 0)
def inRow (w : Int) : Prop := w = 0 ∨ 10 ≤ w ∧ w ≤ 15
def cupA (σ : Sg) (w : Int) : Int := if 6 < (cupR σ).1 then -1 else if w = 0 then ((cupR σ).1 : Int) else if w - 10 < (pb (sP σ) : Int) then ((cupR σ).2 (w - 10).toNat : Int) - 1 else -1
def withC (σ : Sg) (c o : Nat) : Sg := (sl σ, sg σ, sP σ, sE σ, sk σ, sK σ, s1 σ, c, o)
def o_cups (σ : Sg) (w : Int) : Sg × Int := if w = 0 ∨ 10 ≤ w ∧ w ≤ 15 then (if pb (sP σ) = 0 ∨ s2 σ = 12 then (σ, -103) else (withC σ (s2 σ + 1) (s3 σ), cupA σ w)) else (σ, -102)
-- ORDER
def ordC (ρ : Ru) (rec : (Nat → Bool) → (Nat → Nat) → Nat → (Nat → Nat) → Nat × (Nat → Nat) → Nat × (Nat → Nat)) (j : Nat) (us : Nat → Bool) (t : Nat → Nat) (lost : Nat) (row : Nat → Nat) : Nat → Nat × (Nat → Nat) → Nat × (Nat → Nat)
  | 0, z => z
  | b + 1, z => if us b = true then ordC ρ rec j us t lost row b z else rec (pu us b true) (be ρ b t) (lost + lo ρ b t) (pu row j b) (ordC ρ rec j us t lost row b z)
def ordF (ρ : Ru) : Nat → Nat → (Nat → Bool) → (Nat → Nat) → Nat → (Nat → Nat) → Nat × (Nat → Nat) → Nat × (Nat → Nat)
  | 0, _, _, _, lost, row, z => if lost < z.1 then (lost, row) else z
  | k + 1, j, us, t, lost, row, z => ordC ρ (fun us2 t2 lost2 row2 z2 => ordF ρ k (j + 1) us2 t2 lost2 row2 z2) j us t lost row (rb ρ) z
def ordR (σ : Sg) : Nat × (Nat → Nat) := ordF (sr σ) (pb (sP σ)) 0 (fun _ => false) (st σ) 0 (fun _ => 0) (25, fun _ => 0)
def ordA (σ : Sg) (w : Int) : Int := if w = 0 then ((ordR σ).1 : Int) else if w - 10 < (pb (sP σ) : Int) then ((ordR σ).2 (w - 10).toNat : Int) else -1
def o_order (σ : Sg) (w : Int) : Sg × Int := if w = 0 ∨ 10 ≤ w ∧ w ≤ 15 then (if pb (sP σ) = 0 ∨ s3 σ = 20 then (σ, -103) else (withC σ (s2 σ) (s3 σ + 1), ordA σ w)) else (σ, -102)
-- DRAUGHTS: seed, lost, coffees, tired
def sdn (s : Nat) : Nat := (1103515245 * s + 12345) % 2147483648
def drT (ρ : Ru) (s : Nat) (t : Nat → Nat) : Nat → Nat := if sdn (sdn s) / 65536 % 6 = 0 then rf t (sdn s / 65536 % rn ρ) else t
/-- the first b bars of one time -/
def drB (ρ : Ru) (t : Nat → Nat) (z : Nat × Nat × Nat) : Nat → Nat × Nat × Nat × (Nat → Nat)
  | 0 => (z.1, z.2.1, z.2.2, t)
  | b + 1 => (sdn (sdn (drB ρ t z b).1), (drB ρ t z b).2.1 + lo ρ b (drT ρ (drB ρ t z b).1 (drB ρ t z b).2.2.2), (drB ρ t z b).2.2.1 + (if sdn (sdn (drB ρ t z b).1) / 65536 % 6 = 0 then 1 else 0), be ρ b (drT ρ (drB ρ t z b).1 (drB ρ t z b).2.2.2))
/-- so many times -/
def drN (ρ : Ru) (t : Nat → Nat) (s : Nat) : Nat → Nat × Nat × Nat
  | 0 => (s, 0, 0)
  | k + 1 => ((drB ρ t (drN ρ t s k) (rb ρ)).1, (drB ρ t (drN ρ t s k) (rb ρ)).2.1, (drB ρ t (drN ρ t s k) (rb ρ)).2.2.1)
def drA (σ : Sg) (n s : Nat) (w : Int) : Int := if w = 0 then ((drN (sr σ) (st σ) s n).2.1 : Int) else if w = 1 then ((drN (sr σ) (st σ) s n).2.2 : Int) else ((drN (sr σ) (st σ) s n).1 : Int)
def o_draughts (σ : Sg) (n s w : Int) : Sg × Int := (σ, if (1 ≤ n ∧ n ≤ 30) ∧ 0 ≤ s ∧ (0 ≤ w ∧ w ≤ 2) then (if en (sE σ) = 0 then -103 else drA σ n.toNat s.toNat w) else -102)
-- IMAGE and all the rest
def o_image (σ : Sg) : Sg × Int := if pb (sP σ) = 0 then (σ, -103) else ((sl σ, sg σ, sP σ, sE σ, true, sE σ, s1 σ, s2 σ, s3 σ), (ep (sE σ) : Int))
def o_restore (σ : Sg) : Sg × Int := if sk σ = true then (withE σ (sK σ), (ep (sK σ) : Int)) else (σ, -103)
def cntA (σ : Sg) (w : Int) : Int := if w = 0 then (pb (sP σ) : Int) else if w = 1 then (pL (sP σ) : Int) else if w = 2 then (en (sE σ) : Int) else if w = 3 then (cw (aw (sr σ) (st σ)) : Int) else if w = 4 then (cw (he (sr σ) (st σ)) : Int) else if w = 5 then (ep (sE σ) : Int) else if w = 6 then (es (sE σ) : Int) else if w = 7 then (su (ec (sE σ)) (en (sE σ)) : Int) else if w = 8 then (eT (sE σ) : Int) else if w = 9 then (sl σ : Int) else if w = 10 then (s1 σ : Int) else if w = 11 then (s2 σ : Int) else (s3 σ : Int)
def o_count (σ : Sg) (w : Int) : Sg × Int := (σ, if 0 ≤ w ∧ w ≤ 12 then cntA σ w else -102)
def dgF (F : Nat → Int) (h : Int) : Nat → Int
  | 0 => h
  | k + 1 => 31 * dgF F h k + F k
def dgB (σ : Sg) (h : Int) : Nat → Int
  | 0 => h
  | b + 1 => dgF (fun w => tellB σ b (w : Int)) (dgB σ h b) 4
def dgP (σ : Sg) (h : Int) : Nat → Int
  | 0 => h
  | p + 1 => 31 * (31 * dgF (fun w => tellP σ p (w : Int)) (dgP σ h p) 7 + gss σ p) + lis σ p
def dgH (σ : Sg) (h : Int) : Int := if pb (sP σ) = 0 then h else 31 * (31 * h + hear0 σ) + hear1 σ
def o_digest (σ : Sg) : Sg × Int := (σ, dgF (fun w => cntA σ (w : Int)) (dgF (fun k => (sg σ k : Int)) (dgH σ (dgP σ (dgB σ 859 (pb (sP σ))) (en (sE σ)))) (sl σ)) 13)
