def pW (v : Option Value) (W : va_W) : Option Value → va_W → Prop := fun v1 W1 => v1 = v ∧ W1 = W
theorem soc_at (c i : Nat) (hi : i < 4) (h : sL i = (c : Int)) : soc c = (i : Int) := by
  rcases (show i = 0 ∨ i = 1 ∨ i = 2 ∨ i = 3 by omega) with rfl | rfl | rfl | rfl
  · have e : c = 115 := by simp only [sL] at h; omega
    subst e; rfl
  · have e : c = 108 := by simp only [sL] at h; omega
    subst e; rfl
  · have e : c = 97 := by simp only [sL] at h; omega
    subst e; rfl
  · have e : c = 114 := by simp only [sL] at h; omega
    subst e; rfl
theorem soc_no (c : Nat) (h : ∀ j, j < 4 → ¬ sL j = (c : Int)) : soc c = -1 := by
  have h0 := h 0 (by decide)
  have h1 := h 1 (by decide)
  have h2 := h 2 (by decide)
  have h3 := h 3 (by decide)
  simp only [sL] at h0 h1 h2 h3
  unfold soc
  rw [if_neg (by omega), if_neg (by omega), if_neg (by omega), if_neg (by omega)]
/-- all that is told is so of a row of losses -/
def ast (s tb tl : Nat → Nat) : Nat → Bool
  | 0 => true
  | k + 1 => ast s tb tl k && decide (s (tb k) = tl k)
theorem ast_no {s tb tl : Nat → Nat} {i : Nat} (h : ¬ s (tb i) = tl i) (T : Nat) (hi : i < T) : ast s tb tl T = false := by
  induction T with
  | zero => exact absurd hi (Nat.not_lt_zero _)
  | succ T ih =>
    simp only [ast]
    by_cases hT : i = T
    · subst hT; simp [h]
    · rw [ih (by omega)]; rfl
theorem isK_new {E : Ev} {k c : Nat} {rest : (Nat → Nat) × (Nat → Nat) × (Nat → Nat) × Nat × (Nat → Nat) × (Nat → Nat) × Nat × Nat} (hn : en E < 4) : zI ((mk (isK E c) 4 : Nat) : Int) ||| zI (if k = c then ((2 ^ (en E) : Nat) : Int) else 0) = zI ((mk (isK (en E + 1, pu (ek E) (en E) k, rest) c) 4 : Nat) : Int) := by
  have hx : ∀ i, isK (en E + 1, pu (ek E) (en E) k, rest) c i = if i = en E then decide (k = c) else isK E c i := by
    intro i
    show (decide (i < en E + 1) && decide (pu (ek E) (en E) k i = c)) = if i = en E then decide (k = c) else (decide (i < en E) && decide (ek E i = c))
    by_cases h : i = en E
    · rw [if_pos h, h, pu_eq]; simp
    · rw [if_neg h, pu_ne _ _ h, show decide (i < en E + 1) = decide (i < en E) from decide_eq_decide.mpr (by omega)]
  by_cases h : k = c
  · rw [if_pos h, zb_or hn (by omega)]
    refine congrArg (fun n : Nat => zI (n : Int)) (mk_ext (fun i _ => ?_))
    rw [hx, pu_at]; split
    · simp [h]
    · rfl
  · rw [if_neg h]
    have e : mk (isK (en E + 1, pu (ek E) (en E) k, rest) c) 4 = mk (isK E c) 4 := mk_ext (fun i _ => by
      rw [hx]; split
      · next h2 => subst h2; simp [h, isK]
      · rfl)
    rw [e]
    apply b_ext; intro j hj; rw [b_or, show zI 0 = 0 from by decide, b_0, Bool.or_false]
