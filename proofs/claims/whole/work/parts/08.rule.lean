-- THE RULE: limit, players, kinds, bars, sorts, parts
abbrev Ru := Nat × Nat × (Nat → Nat) × Nat × (Nat → Nat) × (Nat → Nat)
def rl (ρ : Ru) : Nat := ρ.1
def rn (ρ : Ru) : Nat := ρ.2.1
def rk (ρ : Ru) : Nat → Nat := ρ.2.2.1
def rb (ρ : Ru) : Nat := ρ.2.2.2.1
def rs (ρ : Ru) : Nat → Nat := ρ.2.2.2.2.1
def rp (ρ : Ru) : Nat → Nat := ρ.2.2.2.2.2
def RuOK (ρ : Ru) : Prop := rl ρ ≤ 9 ∧ rn ρ ≤ 4 ∧ (∀ p, rk ρ p ≤ 4) ∧ rb ρ ≤ 6 ∧ (∀ b, rs ρ b ≤ 3) ∧ ∀ b, rp ρ b ≤ 4
def aw (ρ : Ru) (t : Nat → Nat) (p : Nat) : Bool := decide (p < rn ρ) && decide (t p < rl ρ)
def he (ρ : Ru) (t : Nat → Nat) (p : Nat) : Bool := aw ρ t p || (decide (p < rn ρ) && decide (rk ρ p = 2)) && ((decide (0 < p) && aw ρ t (p - 1)) || aw ρ t (p + 1))
theorem aw_out {ρ : Ru} {t : Nat → Nat} {p : Nat} (h : rn ρ ≤ p) : aw ρ t p = false := by simp [aw, Nat.not_lt.mpr h]
theorem he_out {ρ : Ru} {t : Nat → Nat} {p : Nat} (h : rn ρ ≤ p) : he ρ t p = false := by simp [he, aw_out h, Nat.not_lt.mpr h]
/-- who is next: of those that wait, the least tired, of like ones the first; 4: nobody -/
def nx (w : Nat → Bool) (t : Nat → Nat) : Nat → Nat
  | 0 => 4
  | k + 1 => if w k = true ∧ (nx w t k = 4 ∨ t k < t (nx w t k)) then k else nx w t k
theorem nx_or (w : Nat → Bool) (t : Nat → Nat) (k : Nat) (hk : k ≤ 4) : nx w t k = 4 ∧ (∀ i, i < k → w i = false) ∨ nx w t k < k ∧ w (nx w t k) = true := by
  induction k with
  | zero => exact Or.inl ⟨rfl, fun i hi => absurd hi (Nat.not_lt_zero _)⟩
  | succ k ih =>
    simp only [nx]
    by_cases h : w k = true ∧ (nx w t k = 4 ∨ t k < t (nx w t k))
    · rw [if_pos h]; exact Or.inr ⟨by omega, h.1⟩
    · rw [if_neg h]
      rcases ih (by omega) with ⟨h1, h2⟩ | ⟨h1, h2⟩
      · refine Or.inl ⟨h1, fun i hi => ?_⟩
        by_cases hik : i = k
        · subst hik
          cases hw : w i with
          | false => rfl
          | true => exact absurd ⟨hw, Or.inl h1⟩ h
        · exact h2 i (by omega)
      · exact Or.inr ⟨by omega, h2⟩
theorem nx_more {w : Nat → Bool} {t : Nat → Nat} {k : Nat} (j : Nat) (h : ∀ i, k ≤ i → w i = false) (hj : k ≤ j) : nx w t j = nx w t k := by
  induction j with
  | zero => rw [show k = 0 by omega]
  | succ j ih =>
    by_cases hk : k = j + 1
    · rw [hk]
    · simp only [nx]
      rw [if_neg (by rw [h j (by omega)]; simp), ih (by omega)]
def mo (k : Nat) : Nat := if k = 1 then 2 else if k = 4 then 4 else 1
theorem mo_mT : ∀ k, k ≤ 4 → mT k = (mo k : Int) := by decide
theorem mo_rng (k : Nat) : 1 ≤ mo k ∧ mo k ≤ 4 := by unfold mo; split <;> (try split) <;> omega
/-- the parts are taken by turns -/
def shg (ρ : Ru) (t : Nat → Nat) : Nat → (Nat → Bool) → Nat → (Nat → Nat) → (Nat → Nat) × Nat
  | 0, _, left, s => (s, left)
  | m + 1, w, left, s => if nx w t 4 = 4 then (s, left) else shg ρ t m (pu w (nx w t 4) false) (left - min left (mo (rk ρ (nx w t 4)))) (pu s (nx w t 4) (min left (mo (rk ρ (nx w t 4)))))
def sh (ρ : Ru) (b : Nat) (t : Nat → Nat) : Nat → Nat := (shg ρ t 4 (he ρ t) (rp ρ b) (fun _ => 0)).1
def lo (ρ : Ru) (b : Nat) (t : Nat → Nat) : Nat := (shg ρ t 4 (he ρ t) (rp ρ b) (fun _ => 0)).2
theorem pu_same {α : Type} {s : Nat → α} {p : Nat} {v : α} (h : s p = v) : pu s p v = s := by subst h; exact pu_self s p
theorem shg_left0 (ρ : Ru) (t : Nat → Nat) (m : Nat) (w : Nat → Bool) (s : Nat → Nat) (h : ∀ p, w p = true → s p = 0) : shg ρ t m w 0 s = (s, 0) := by
  induction m generalizing w with
  | zero => rfl
  | succ m ih =>
    simp only [shg]
    split
    · rfl
    · next hn =>
      rcases nx_or w t 4 (by omega) with ⟨h1, -⟩ | ⟨-, h2⟩
      · exact absurd h1 hn
      · rw [Nat.zero_min, pu_same (h _ h2)]
        refine ih _ (fun p hp => ?_)
        rw [pu_at] at hp
        split at hp
        · exact absurd hp (by decide)
        · exact h p hp
theorem shg_inv (ρ : Ru) (t : Nat → Nat) (m : Nat) (w : Nat → Bool) (left : Nat) (s : Nat → Nat) (hw : ∀ p, w p = true → p < 4 ∧ s p = 0) (hs : ∀ p, s p ≤ 4) (h4 : ∀ p, 4 ≤ p → s p = 0) : (∀ p, (shg ρ t m w left s).1 p ≤ 4) ∧ (∀ p, 4 ≤ p → (shg ρ t m w left s).1 p = 0) ∧ su (shg ρ t m w left s).1 6 + (shg ρ t m w left s).2 = su s 6 + left := by
  induction m generalizing w left s with
  | zero => exact ⟨hs, h4, rfl⟩
  | succ m ih =>
    simp only [shg]
    split
    · exact ⟨hs, h4, rfl⟩
    · next hn =>
      rcases nx_or w t 4 (by omega) with ⟨h1, -⟩ | ⟨h1, h2⟩
      · exact absurd h1 hn
      · have h3 := hw _ h2
        have hm := mo_rng (rk ρ (nx w t 4))
        have hq := ih (pu w (nx w t 4) false) (left - min left (mo (rk ρ (nx w t 4)))) (pu s (nx w t 4) (min left (mo (rk ρ (nx w t 4))))) (fun p hp => by
          rw [pu_at] at hp
          split at hp
          · exact absurd hp (by decide)
          · next hne => rw [pu_ne _ _ hne]; exact hw p hp) (fun p => by rw [pu_at]; split; omega; exact hs p) (fun p hp => by rw [pu_ne _ _ (by omega)]; exact h4 p hp)
        refine ⟨hq.1, hq.2.1, hq.2.2.trans ?_⟩
        rw [su_pu h3.2, if_pos (by omega)]
        omega
/-- one more in the fuel does nothing once nobody waits -/
theorem shg_done {ρ : Ru} {t : Nat → Nat} {m : Nat} {w : Nat → Bool} {left : Nat} {s : Nat → Nat} (h : ∀ i, i < 4 → w i = false) : shg ρ t m w left s = (s, left) := by
  cases m with
  | zero => rfl
  | succ m =>
    simp only [shg]
    rcases nx_or w t 4 (by omega) with ⟨h1, -⟩ | ⟨h1, h2⟩
    · rw [if_pos h1]
    · rw [h _ h1] at h2; exact absurd h2 (by decide)
theorem sh_facts (ρ : Ru) (b : Nat) (t : Nat → Nat) (h : RuOK ρ) : (∀ p, sh ρ b t p ≤ 4) ∧ (∀ p, 4 ≤ p → sh ρ b t p = 0) ∧ su (sh ρ b t) 6 + lo ρ b t = rp ρ b := by
  have q := shg_inv ρ t 4 (he ρ t) (rp ρ b) (fun _ => 0) (fun p hp => ⟨by
    rcases Nat.lt_or_ge p 4 with h1 | h1
    · exact h1
    · rw [he_out (by have := h.2.1; omega)] at hp; exact absurd hp (by decide), rfl⟩) (fun _ => Nat.zero_le _) (fun _ _ => rfl)
  refine ⟨q.1, q.2.1, q.2.2.trans ?_⟩
  rw [su_0]; omega
theorem lo_le (ρ : Ru) (b : Nat) (t : Nat → Nat) (h : RuOK ρ) : lo ρ b t ≤ rp ρ b ∧ rp ρ b ≤ 4 := by
  have q := (sh_facts ρ b t h).2.2
  have := h.2.2.2.2.2 b
  omega
def snr (ρ : Ru) (t : Nat → Nat) (p : Nat) : Bool := (decide (p < rn ρ) && decide (rk ρ p = 3)) && !aw ρ t p
def bz (ρ : Ru) (b : Nat) (t : Nat → Nat) (p : Nat) : Int := (t p : Int) + sT (rs ρ b) + (if 0 < sh ρ b t p then 1 else 0) - b2 (snr ρ t (p + 1)) - (if p = 0 then 0 else b2 (snr ρ t (p - 1)))
def clp (v : Int) : Int := if v < 0 then 0 else if 9 < v then 9 else v
theorem clp_rng (v : Int) : 0 ≤ clp v ∧ clp v ≤ 9 := by unfold clp; split <;> (try split) <;> omega
def be (ρ : Ru) (b : Nat) (t : Nat → Nat) (p : Nat) : Nat := if p < rn ρ then (clp (bz ρ b t p)).toNat else 0
theorem be_at {ρ : Ru} {b : Nat} {t : Nat → Nat} {p : Nat} (h : p < rn ρ) : (be ρ b t p : Int) = clp (bz ρ b t p) := by
  unfold be; rw [if_pos h]; have := clp_rng (bz ρ b t p); omega
/-- tired by 0 to 9, 0 where there is nobody -/
def tk (ρ : Ru) (t : Nat → Nat) : Prop := (∀ p, t p ≤ 9) ∧ ∀ p, rn ρ ≤ p → t p = 0
theorem tk_16 {ρ : Ru} {t : Nat → Nat} (h : tk ρ t) : ∀ p, t p < 16 := fun p => by have := h.1 p; omega
theorem tk_be (ρ : Ru) (b : Nat) (t : Nat → Nat) : tk ρ (be ρ b t) := by
  refine ⟨fun p => ?_, fun p hp => ?_⟩
  · unfold be; split
    · have := clp_rng (bz ρ b t p); omega
    · omega
  · unfold be; rw [if_neg (by omega)]
theorem tk_pu {ρ : Ru} {t : Nat → Nat} (h : tk ρ t) {p v : Nat} (hp : p < rn ρ) (hv : v ≤ 9) : tk ρ (pu t p v) := by
  refine ⟨fun j => ?_, fun j hj => ?_⟩
  · rw [pu_at]; split
    · exact hv
    · exact h.1 j
  · rw [pu_ne _ _ (by omega)]; exact h.2 j hj
/-- how tired all are ahead of bar b, from t on, from bar 0 -/
def ru (ρ : Ru) (t : Nat → Nat) : Nat → (Nat → Nat)
  | 0 => t
  | b + 1 => be ρ b (ru ρ t b)
def ls (ρ : Ru) (t : Nat → Nat) (b : Nat) : Nat := lo ρ b (ru ρ t b)
theorem tk_ru {ρ : Ru} {t : Nat → Nat} (h : tk ρ t) (b : Nat) : tk ρ (ru ρ t b) := by
  cases b with
  | zero => exact h
  | succ b => exact tk_be _ _ _
def rf (t : Nat → Nat) (p : Nat) : Nat → Nat := pu t p (t p - 4)
theorem tk_rf {ρ : Ru} {t : Nat → Nat} (h : tk ρ t) {p : Nat} (hp : p < rn ρ) : tk ρ (rf t p) := tk_pu h hp (by have := h.1 p; omega)
theorem sT_rng (j : Nat) : -3 ≤ sT j ∧ sT j ≤ 2 := by unfold sT; split <;> decide
theorem bz_rng {ρ : Ru} {b : Nat} {t : Nat → Nat} {p : Nat} (h : t p ≤ 9) : -10 ≤ bz ρ b t p ∧ bz ρ b t p ≤ 20 := by
  unfold bz
  have h1 := sT_rng (rs ρ b)
  have h2 := b2_rng (snr ρ t (p + 1))
  have h3 := b2_rng (snr ρ t (p - 1))
  split <;> split <;> omega
-- heardWith, by bits
def b4 (a b c d : Bool) : Nat := (if a then 1 else 0) + (if b then 2 else 0) + (if c then 4 else 0) + (if d then 8 else 0)
theorem mk_b4 (w : Nat → Bool) : mk w 4 = b4 (w 0) (w 1) (w 2) (w 3) := by simp [mk, b4]
theorem hw_dec : ∀ a0 a1 a2 a3 d0 d1 d2 d3 : Bool, zI (b4 a0 a1 a2 a3 : Int) ||| (zI (b4 d0 d1 d2 d3 : Int) &&& ((zI (b4 a0 a1 a2 a3 : Int) <<< (zI 1 &&& 31)) ||| (zI (b4 a0 a1 a2 a3 : Int) >>> (zI 1 &&& 31)))) = zI (b4 (a0 || d0 && a1) (a1 || d1 && (a0 || a2)) (a2 || d2 && (a1 || a3)) (a3 || d3 && a2) : Int) := by decide +kernel
def drm (ρ : Ru) (p : Nat) : Bool := decide (p < rn ρ) && decide (rk ρ p = 2)
def snm (ρ : Ru) (p : Nat) : Bool := decide (p < rn ρ) && decide (rk ρ p = 3)
theorem hw_he {ρ : Ru} (t : Nat → Nat) (h : rn ρ ≤ 4) : zI ((mk (aw ρ t) 4 : Nat) : Int) ||| (zI ((mk (drm ρ) 4 : Nat) : Int) &&& ((zI ((mk (aw ρ t) 4 : Nat) : Int) <<< (zI 1 &&& 31)) ||| (zI ((mk (aw ρ t) 4 : Nat) : Int) >>> (zI 1 &&& 31)))) = zI ((mk (he ρ t) 4 : Nat) : Int) := by
  rw [mk_b4, mk_b4, mk_b4, hw_dec]
  have h4 : aw ρ t 4 = false := aw_out h
  simp only [he, drm, Nat.lt_irrefl, decide_false, Bool.false_and, Bool.false_or]
  simp [h4]
-- the snorers who sleep
theorem sn_dec : ∀ a0 a1 a2 a3 d0 d1 d2 d3 : Bool, zI (b4 d0 d1 d2 d3 : Int) &&& (zI (b4 a0 a1 a2 a3 : Int) ^^^ zI (-1)) = zI (b4 (d0 && !a0) (d1 && !a1) (d2 && !a2) (d3 && !a3) : Int) := by decide +kernel
theorem sn_snr {ρ : Ru} (t : Nat → Nat) : zI ((mk (snm ρ) 4 : Nat) : Int) &&& (zI ((mk (aw ρ t) 4 : Nat) : Int) ^^^ zI (-1)) = zI ((mk (snr ρ t) 4 : Nat) : Int) := by
  rw [mk_b4, mk_b4, mk_b4, sn_dec]
  rfl
theorem sn_up : ∀ a0 a1 a2 a3 : Bool, ∀ p : Nat, p < 4 → (zI (b4 a0 a1 a2 a3 : Int) >>> (zI ((p : Int) + 1) &&& 31)) &&& zI 1 = zI (b2 (if p = 0 then a1 else if p = 1 then a2 else if p = 2 then a3 else false)) := by decide +kernel
theorem sn_dn : ∀ a0 a1 a2 a3 : Bool, ∀ p : Nat, p < 4 → ((zI (b4 a0 a1 a2 a3 : Int) <<< (zI 1 &&& 31)) >>> (zI (p : Int) &&& 31)) &&& zI 1 = zI (if p = 0 then 0 else b2 (if p = 1 then a0 else if p = 2 then a1 else a2)) := by decide +kernel
theorem snr_up {ρ : Ru} (t : Nat → Nat) (h : rn ρ ≤ 4) {p : Nat} (hp : p < 4) : (zI ((mk (snr ρ t) 4 : Nat) : Int) >>> (zI ((p : Int) + 1) &&& 31)) &&& zI 1 = zI (b2 (snr ρ t (p + 1))) := by
  rw [mk_b4, sn_up _ _ _ _ p hp]
  have h4 : snr ρ t 4 = false := by simp [snr, Nat.not_lt.mpr h]
  rcases (show p = 0 ∨ p = 1 ∨ p = 2 ∨ p = 3 by omega) with rfl | rfl | rfl | rfl <;> simp [h4]
theorem snr_dn {ρ : Ru} (t : Nat → Nat) {p : Nat} (hp : p < 4) : ((zI ((mk (snr ρ t) 4 : Nat) : Int) <<< (zI 1 &&& 31)) >>> (zI (p : Int) &&& 31)) &&& zI 1 = zI (if p = 0 then 0 else b2 (snr ρ t (p - 1))) := by
  rw [mk_b4, sn_dn _ _ _ _ p hp]
  rcases (show p = 0 ∨ p = 1 ∨ p = 2 ∨ p = 3 by omega) with rfl | rfl | rfl | rfl <;> simp
/-- the component holds the rule ρ -/
def cR (f : Nat → Int) (r : Nat → Nat → Int) (ρ : Ru) : Prop := f 1 = (rb ρ : Int) ∧ f 2 = (rl ρ : Int) ∧ f 4 = (rn ρ : Int) ∧ (∀ p, p < rn ρ → r 3 p = (rk ρ p : Int)) ∧ f 6 = ((mk (drm ρ) 4 : Nat) : Int) ∧ f 7 = ((mk (snm ρ) 4 : Nat) : Int) ∧ (∀ b, b < rb ρ → r 1 b = (rs ρ b : Int)) ∧ ∀ b, b < rb ρ → r 2 b = (rp ρ b : Int)
/-- the model holds the rule ρ -/
def mR (f : Nat → Int) (r : Nat → Nat → Int) (ρ : Ru) : Prop := f 4 = (rb ρ : Int) ∧ f 5 = (rl ρ : Int) ∧ f 9 = (rn ρ : Int) ∧ (∀ p, p < rn ρ → r 3 (4 * p) = (rk ρ p : Int)) ∧ (∀ b, b < rb ρ → r 2 (2 * b) = (rs ρ b : Int)) ∧ ∀ b, b < rb ρ → r 2 (2 * b + 1) = (rp ρ b : Int)
theorem shg_step {ρ : Ru} {t : Nat → Nat} {m : Nat} {w : Nat → Bool} {left : Nat} {s : Nat → Nat} (hm : 0 < m) (hn : nx w t 4 < 4) : shg ρ t (m - 1) (pu w (nx w t 4) false) (left - min left (mo (rk ρ (nx w t 4)))) (pu s (nx w t 4) (min left (mo (rk ρ (nx w t 4))))) = shg ρ t m w left s := by
  obtain ⟨m, rfl⟩ : ∃ z, m = z + 1 := ⟨m - 1, by omega⟩
  conv => rhs; simp only [shg]
  rw [if_neg (by omega)]
  rfl
theorem clp_mm (x : Int) : (if 0 < (if x < 9 then x else 9) then (if x < 9 then x else 9) else 0) = clp x := by
  unfold clp
  by_cases h1 : x < 9
  · simp only [if_pos h1]
    by_cases h2 : 0 < x
    · rw [if_pos h2, if_neg (by omega), if_neg (by omega)]
    · rw [if_neg h2]
      by_cases h3 : x < 0
      · rw [if_pos h3]
      · rw [if_neg h3, if_neg (by omega)]; omega
  · simp only [if_neg h1]
    rw [if_pos (by omega), if_neg (by omega)]
    by_cases h3 : 9 < x
    · rw [if_pos h3]
    · rw [if_neg h3]; omega
/-- the first i of be -/
def bs (ρ : Ru) (b : Nat) (t : Nat → Nat) (i : Nat) : Nat → Nat := fun p => if p < i then be ρ b t p else 0
theorem bs_16 (ρ : Ru) (b : Nat) (t : Nat → Nat) (i : Nat) : ∀ p, bs ρ b t i p < 16 := by
  intro p; unfold bs; split
  · have := (tk_be ρ b t).1 p; omega
  · omega
theorem bs_step (ρ : Ru) (b : Nat) (t : Nat → Nat) (i : Nat) : pu (bs ρ b t i) i (be ρ b t i) = bs ρ b t (i + 1) := by
  funext p; rw [pu_at]; unfold bs
  by_cases h : p = i
  · subst h; rw [if_pos rfl, if_pos (by omega)]
  · rw [if_neg h]
    by_cases h2 : p < i
    · rw [if_pos h2, if_pos (by omega)]
    · rw [if_neg h2, if_neg (by omega)]
theorem bs_all (ρ : Ru) (b : Nat) (t : Nat → Nat) : bs ρ b t (rn ρ) = be ρ b t := by
  funext p; unfold bs
  by_cases h : p < rn ρ
  · rw [if_pos h]
  · rw [if_neg h, (tk_be ρ b t).2 p (by omega)]
theorem bs_zero (ρ : Ru) (b : Nat) (t : Nat → Nat) : bs ρ b t 0 = fun _ => 0 := by
  funext p; unfold bs; rw [if_neg (by omega)]
/-- the parts lost in each of the first i bars -/
def lsv (ρ : Ru) (t : Nat → Nat) (i : Nat) : Nat → Nat := fun p => if p < i then ls ρ t p else 0
theorem ls_4 {ρ : Ru} (t : Nat → Nat) (h : RuOK ρ) (b : Nat) : ls ρ t b ≤ 4 := by
  have := lo_le ρ b (ru ρ t b) h; unfold ls; omega
theorem lsv_16 {ρ : Ru} (t : Nat → Nat) (h : RuOK ρ) (i : Nat) : ∀ p, lsv ρ t i p < 16 := by
  intro p; unfold lsv; split
  · have := ls_4 t h p; omega
  · omega
theorem lsv_4 {ρ : Ru} (t : Nat → Nat) (h : RuOK ρ) (i : Nat) : ∀ p, lsv ρ t i p ≤ 4 := by
  intro p; unfold lsv; split
  · exact ls_4 t h p
  · omega
theorem lsv_step (ρ : Ru) (t : Nat → Nat) (i : Nat) : pu (lsv ρ t i) i (ls ρ t i) = lsv ρ t (i + 1) := by
  funext p; rw [pu_at]; unfold lsv
  by_cases h : p = i
  · subst h; rw [if_pos rfl, if_pos (by omega)]
  · rw [if_neg h]
    by_cases h2 : p < i
    · rw [if_pos h2, if_pos (by omega)]
    · rw [if_neg h2, if_neg (by omega)]
theorem lsv_zero (ρ : Ru) (t : Nat → Nat) : lsv ρ t 0 = fun _ => 0 := by
  funext p; unfold lsv; rw [if_neg (by omega)]
theorem lsv_at {ρ : Ru} {t : Nat → Nat} {i p : Nat} (h : p < i) : lsv ρ t i p = ls ρ t p := by unfold lsv; rw [if_pos h]
theorem n6_0 : n6 (fun _ => 0) = 0 := by show ((nb (fun _ => 0) 6 : Nat) : Int) = 0; rw [nb_0]; rfl
