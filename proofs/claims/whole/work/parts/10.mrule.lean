theorem mR_r {f : Nat → Int} {r r1 : Nat → Nat → Int} {ρ : Ru} (h : mR f r ρ) (h2 : r1 2 = r 2) (h3 : r1 3 = r 3) : mR f r1 ρ := by
  unfold mR at *; rw [h2, h3]; exact h
/-- the first i places of the row A are laid by E, nothing else is changed -/
def lay (A i : Nat) (E : Nat → Int) (r r1 : Nat → Nat → Int) : Prop := (∀ k, k ≠ A → r1 k = r k) ∧ ∀ p, p < i → r1 A p = E p
theorem lay_0 (A : Nat) (E : Nat → Int) (r : Nat → Nat → Int) : lay A 0 E r r := ⟨fun _ _ => rfl, fun p hp => absurd hp (Nat.not_lt_zero p)⟩
theorem lay_s {A i : Nat} {E : Nat → Int} {r r1 : Nat → Nat → Int} (h : lay A i E r r1) (x : Int) (hx : x = E i) : lay A (i + 1) E r (pu r1 A (pu (r1 A) i x)) := by
  refine ⟨fun k hk => by rw [pu_ne _ _ hk]; exact h.1 k hk, fun p hp => ?_⟩
  rw [pu_eq, pu_at]
  by_cases hpi : p = i
  · subst hpi; rw [if_pos rfl]; exact hx
  · rw [if_neg hpi]; exact h.2 p (by omega)
/-- the answer and the world's rows then -/
def pR (W0 : (Nat → Nat → Int) → va_W) (P : Option Value → (Nat → Nat → Int) → Prop) : Option Value → va_W → Prop := fun v W1 => ∃ r1, W1 = W0 r1 ∧ P v r1
/-- how many wait -/
def cw (w : Nat → Bool) : Nat := su (fun p => if w p then 1 else 0) 4
theorem cw_le (w : Nat → Bool) : cw w ≤ 4 := by
  have := su_lt (s := fun p => if w p then 1 else 0) (c := 1) (fun p => by show (if w p then 1 else 0) ≤ 1; split <;> omega) 4
  unfold cw; omega
theorem cw_b (w : Nat → Bool) : cw w = (if w 0 then 1 else 0) + (if w 1 then 1 else 0) + (if w 2 then 1 else 0) + (if w 3 then 1 else 0) := by
  simp only [cw, su]; omega
theorem cw_pu {w : Nat → Bool} {p : Nat} (hp : p < 4) (h : w p = true) : cw (pu w p false) + 1 = cw w := by
  rw [cw_b, cw_b]
  simp only [pu_at]
  rcases (show p = 0 ∨ p = 1 ∨ p = 2 ∨ p = 3 by omega) with rfl | rfl | rfl | rfl <;> simp [h] <;> omega
theorem he_all {ρ : Ru} {t : Nat → Nat} (p : Nat) (hp : he ρ t p = true) : p < rn ρ := by
  rcases Nat.lt_or_ge p (rn ρ) with h | h
  · exact h
  · rw [he_out h] at hp; exact absurd hp (by decide)
/-- what model's next is -/
def nxm (w : Nat → Bool) (t : Nat → Nat) (i : Nat) : Int := if nx w t i = 4 then -1 else (nx w t i : Int)
/-- what is told last of a bar -/
def ltl (tb tl : Nat → Nat) (b : Nat) : Nat → Int
  | 0 => -1
  | k + 1 => if tb k = b then (tl k : Int) else ltl tb tl b k
theorem ltl_rng {tb tl : Nat → Nat} {b : Nat} (h : ∀ k, tl k ≤ 4) (k : Nat) : -1 ≤ ltl tb tl b k ∧ ltl tb tl b k ≤ 4 := by
  induction k with
  | zero => simp [ltl]
  | succ k ih => simp only [ltl]; split
                 · have := h k; omega
                 · exact ih
theorem lay_to {A i : Nat} {E : Nat → Int} {r r1 : Nat → Nat → Int} (h : lay A i E r r1) (n : Nat) (e : i = n) : lay A n E r r1 := by subst e; exact h
