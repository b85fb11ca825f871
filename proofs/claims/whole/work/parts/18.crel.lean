def qC (cI : ClassId) (q : Nat → Nat) (o : Sg × Int) : Option Value → va_W → Prop := pC (cW cI q) (fun v f1 r1 => v = some (.int (zI o.2)) ∧ CRel f1 r1 o.1)
theorem qC_ret {cI : ClassId} {q : Nat → Nat} {o : Sg × Int} {σ1 : Sg} {a : Int} {f1 : Nat → Int} {r1 : Nat → Nat → Int} (ho : o = (σ1, a)) (h : CRel f1 r1 σ1) : qC cI q o (some (.int (zI a))) (cW cI q f1 r1) := by subst ho; exact ⟨f1, r1, rfl, rfl, h⟩
theorem cR_r {f : Nat → Int} {r r1 : Nat → Nat → Int} {ρ : Ru} (h : cR f r ρ) (hr : ∀ k, k ≠ 5 → r1 k = r k) : cR f r1 ρ := by
  unfold cR at *
  rw [hr 1 (by decide), hr 2 (by decide), hr 3 (by decide)]
  exact h
theorem ft_all {g : Nat → Nat} (m k : Nat) (h : ft g k m = k + m) : ∀ j, k ≤ j → j < k + m → okc g j = true := by
  induction m generalizing k with
  | zero => intro j h1 h2; omega
  | succ m ih =>
    intro j h1 h2
    simp only [ft] at h
    by_cases hk : okc g k = true
    · rw [if_pos hk] at h
      by_cases hj : j = k
      · subst hj; exact hk
      · exact ih (k + 1) (by omega) j (by omega) (by omega)
    · rw [if_neg hk] at h; omega
/-- a page that is whole -/
def wfP (n : Nat) (g : Nat → Nat) : Prop := n = 3 * (n / 3) + 1 ∧ 1 ≤ n / 3 ∧ n / 3 ≤ 6 ∧ (49 ≤ g (3 * (n / 3)) ∧ g (3 * (n / 3)) ≤ 57) ∧ (∀ b, b < n / 3 → ¬ soc (g (3 * b)) = -1) ∧ ∀ b, b < n / 3 → 49 ≤ g (3 * b + 1) ∧ g (3 * b + 1) ≤ 52
theorem whl_len {n : Nat} {g : Nat → Nat} (h2 : 2 ≤ n) (hs : g (n - 2) = 59) (hf : ft g 0 n = n) : wfP n g := by
  have ok := ft_all (g := g) n 0 (by omega)
  have ne : ∀ j, j + 2 < n → ¬ g j = 59 := by
    intro j hj e
    have q := ok (j + 2) (by omega) (by omega)
    unfold okc at q
    rw [if_pos ⟨by omega, by rw [show j + 2 - 2 = j by omega]; exact e⟩] at q
    exact absurd q (by decide)
  have at3 : ∀ k, k ≤ n - 2 → (k % 3 = 0 → ¬ soc (g k) = -1) ∧ (k % 3 = 1 → 49 ≤ g k ∧ g k ≤ 52) ∧ (k % 3 = 2 → g k = 59 ∨ g k = 44 ∧ k / 3 + 1 < 6) := by
    intro k hk
    have q := ok k (by omega) (by omega)
    unfold okc at q
    have c1 : ¬ (2 ≤ k ∧ g (k - 2) = 59) := fun z => ne (k - 2) (by omega) z.2
    have c2 : ¬ (1 ≤ k ∧ g (k - 1) = 59) := fun z => ne (k - 1) (by omega) z.2
    rw [if_neg c1, if_neg c2] at q
    refine ⟨fun h => ?_, fun h => ?_, fun h => ?_⟩
    · rw [if_pos h] at q; exact of_decide_eq_true q
    · rw [if_neg (by omega), if_pos h] at q; exact of_decide_eq_true q
    · rw [if_neg (by omega), if_neg (by omega)] at q; exact of_decide_eq_true q
  have hm : (n - 2) % 3 = 2 := by
    have q := at3 (n - 2) (Nat.le_refl _)
    rw [hs] at q
    have s59 : soc 59 = -1 := by decide
    rcases (show (n - 2) % 3 = 0 ∨ (n - 2) % 3 = 1 ∨ (n - 2) % 3 = 2 by omega) with h | h | h
    · exact absurd s59 (q.1 h)
    · have := q.2.1 h; omega
    · exact h
  have hlast := ok (n - 1) (by omega) (by omega)
  unfold okc at hlast
  rw [if_neg (show ¬ (2 ≤ n - 1 ∧ g (n - 1 - 2) = 59) from fun z => ne (n - 1 - 2) (by omega) z.2), if_pos ⟨by omega, by rw [show n - 1 - 1 = n - 2 by omega]; exact hs⟩] at hlast
  have hlast := of_decide_eq_true hlast
  have h6 : n / 3 ≤ 6 := by
    rcases Nat.lt_or_ge 5 n with h | h
    · have q := (at3 (n - 5) (by omega)).2.2 (by omega)
      rcases q with q | q
      · exact absurd q (ne (n - 5) (by omega))
      · omega
    · omega
  refine ⟨by omega, by omega, h6, by rw [show 3 * (n / 3) = n - 1 by omega]; exact hlast, fun b hb => (at3 (3 * b) (by omega)).1 (by omega), fun b hb => (at3 (3 * b + 1) (by omega)).2.1 (by omega)⟩
theorem letter_rel {f : Nat → Int} {r : Nat → Nat → Int} {σ : Sg} {a : Int} (h : CRel f r σ) (ha : 0 ≤ a) : CRel (pu f 0 ((sl σ : Int) + 1)) (pu r 0 (pu (r 0) (sl σ) a)) (sl σ + 1, pu (sg σ) (sl σ) a.toNat, σ.2.2) := by
  refine ⟨⟨rfl, fun k hk => ?_⟩, h.2⟩
  show pu (r 0) (sl σ) a k = ((pu (sg σ) (sl σ) a.toNat k : Nat) : Int)
  have hk : k < sl σ + 1 := hk
  rw [pu_at, pu_at]; split
  · omega
  · exact h.1.2 k (by omega)
theorem piece_rel {f : Nat → Int} {r R21 : Nat → Nat → Int} {σ : Sg} (h : CRel f r σ) (_hR : ∀ k, k ≠ 1 → k ≠ 2 → R21 k = r k) (hso : ∀ b, b < min 6 (sl σ / 3) → R21 1 b = (if 0 < soc (sg σ (3 * b)) then soc (sg σ (3 * b)) else 0)) (hpa : ∀ b, b < min 6 (sl σ / 3) → R21 2 b = (sg σ (3 * b + 1) : Int) - 48) (hwf : wfP (sl σ) (sg σ)) :
    CRel (pu (pu (pu (pu (pu (pu (pu (pu (pu (pu (pu (pu f 1 ((min 6 (sl σ / 3) : Nat) : Int)) 2 ((sg σ (3 * (min 6 (sl σ / 3))) : Int) - 48)) 0 0) 3 0) 4 0) 5 0) 6 0) 7 0) 8 0) 9 0) 23 0) 24 ((s1 σ : Int) + 1)) R21 (0, sg σ, newP (sl σ) (sg σ), ev0, false, sK σ, s1 σ + 1, s2 σ, s3 σ) := by
  obtain ⟨w1, w2, w3, w4, w5, w6⟩ := hwf
  have e6 : min 6 (sl σ / 3) = sl σ / 3 := by omega
  refine ⟨⟨rfl, fun k hk => absurd hk (Nat.not_lt_zero k)⟩, ⟨rfl, ?_, fun i hi => ?_, fun i hi => ?_⟩, ⟨rfl, rfl, n6_0.symm, rfl, rfl, rfl, rfl, fun p hp => absurd hp (Nat.not_lt_zero p), fun p hp => absurd hp (Nat.not_lt_zero p), fun p hp => absurd hp (Nat.not_lt_zero p), fun p hp => absurd hp (Nat.not_lt_zero p), fun p hp => absurd hp (Nat.not_lt_zero p)⟩, fun hq => absurd (show false = true from hq) (by decide), rfl, rfl, h.2.2.2.2.2.2.1, h.2.2.2.2.2.2.2⟩
  · show (sg σ (3 * (min 6 (sl σ / 3))) : Int) - 48 = ((min 9 (sg σ (3 * min 6 (sl σ / 3)) - 48) : Nat) : Int)
    rw [e6]; omega
  · show R21 1 i = (((max 0 (soc (sg σ (3 * i)))).toNat : Nat) : Int)
    rw [hso i hi]; split <;> omega
  · show R21 2 i = ((min 4 (sg σ (3 * i + 1) - 48) : Nat) : Int)
    have hi2 : i < min 6 (sl σ / 3) := hi
    have q := w6 i (by omega)
    rw [hpa i hi]; omega
theorem player_rel {f : Nat → Int} {r : Nat → Nat → Int} {σ : Sg} {a b : Int} (h : CRel f r σ) (_hn : en (sE σ) < 4) :
    CRel (pu (pu (pu (pu f 5 (n6 (pu (et (sE σ)) (en (sE σ)) b.toNat))) 6 ((mk (isK (en (sE σ) + 1, pu (ek (sE σ)) (en (sE σ)) a.toNat, pu (et (sE σ)) (en (sE σ)) b.toNat, pu (eo (sE σ)) (en (sE σ)) 0, pu (ec (sE σ)) (en (sE σ)) 0, (sE σ).2.2.2.2.2) 2) 4 : Nat) : Int)) 7 ((mk (isK (en (sE σ) + 1, pu (ek (sE σ)) (en (sE σ)) a.toNat, pu (et (sE σ)) (en (sE σ)) b.toNat, pu (eo (sE σ)) (en (sE σ)) 0, pu (ec (sE σ)) (en (sE σ)) 0, (sE σ).2.2.2.2.2) 3) 4 : Nat) : Int)) 4 ((en (sE σ) : Int) + 1)) (pu (pu (pu r 3 (pu (r 3) (en (sE σ)) (a.toNat : Int))) 4 (pu (r 4) (en (sE σ)) 0)) 5 (pu (r 5) (en (sE σ)) 0)) (withE σ (en (sE σ) + 1, pu (ek (sE σ)) (en (sE σ)) a.toNat, pu (et (sE σ)) (en (sE σ)) b.toNat, pu (eo (sE σ)) (en (sE σ)) 0, pu (ec (sE σ)) (en (sE σ)) 0, (sE σ).2.2.2.2.2)) := by
  obtain ⟨g1, g2, ⟨e1, e2, e3, e4, e5, e6, e7, e8, e9, e10, e11, e12⟩, g4⟩ := h
  refine ⟨g1, g2, ⟨e1, rfl, rfl, rfl, rfl, e6, e7, fun p hp => ?_, fun p hp => ?_, fun p hp => ?_, e11, e12⟩, g4⟩
  · show pu (r 3) (en (sE σ)) (a.toNat : Int) p = ((pu (ek (sE σ)) (en (sE σ)) a.toNat p : Nat) : Int)
    have hp : p < en (sE σ) + 1 := hp
    rw [pu_at, pu_at]; split
    · rfl
    · exact e8 p (by omega)
  · show pu (r 4) (en (sE σ)) 0 p = ((pu (ec (sE σ)) (en (sE σ)) 0 p : Nat) : Int)
    have hp : p < en (sE σ) + 1 := hp
    rw [pu_at, pu_at]; split
    · rfl
    · exact e9 p (by omega)
  · show pu (r 5) (en (sE σ)) 0 p = ((pu (eo (sE σ)) (en (sE σ)) 0 p : Nat) : Int)
    have hp : p < en (sE σ) + 1 := hp
    rw [pu_at, pu_at]; split
    · rfl
    · exact e10 p (by omega)
theorem coffee_rel {f : Nat → Int} {r : Nat → Nat → Int} {σ : Sg} {a : Int} (h : CRel f r σ) (_ha : a.toNat < en (sE σ)) :
    CRel (pu f 5 (n6 (rf (st σ) a.toNat))) (pu r 4 (pu (r 4) a.toNat ((ec (sE σ) a.toNat : Int) + 1))) (withE σ (en (sE σ), ek (sE σ), rf (st σ) a.toNat, eo (sE σ), pu (ec (sE σ)) a.toNat (ec (sE σ) a.toNat + 1), (sE σ).2.2.2.2.2)) := by
  obtain ⟨g1, g2, ⟨e1, e2, e3, e4, e5, e6, e7, e8, e9, e10, e11, e12⟩, g4⟩ := h
  refine ⟨g1, g2, ⟨e1, e2, rfl, e4, e5, e6, e7, e8, fun p hp => ?_, e10, e11, e12⟩, g4⟩
  show pu (r 4) a.toNat ((ec (sE σ) a.toNat : Int) + 1) p = ((pu (ec (sE σ)) a.toNat (ec (sE σ) a.toNat + 1) p : Nat) : Int)
  rw [pu_at, pu_at]; split
  · rfl
  · exact e9 p hp
theorem tire_rel {f : Nat → Int} {r : Nat → Nat → Int} {σ : Sg} {a b : Int} (h : CRel f r σ) :
    CRel (pu f 5 (n6 (pu (st σ) a.toNat b.toNat))) r (withE σ (setT (sE σ) (pu (st σ) a.toNat b.toNat))) := by
  obtain ⟨g1, g2, ⟨e1, e2, e3, e4, e5, e6, e7, e8, e9, e10, e11, e12⟩, g4⟩ := h
  exact ⟨g1, g2, ⟨e1, e2, rfl, e4, e5, e6, e7, e8, e9, e10, e11, e12⟩, g4⟩
theorem play_rel {f : Nat → Int} {r R1 : Nat → Nat → Int} {σ : Sg} (h : CRel f r σ) (hR1 : ∀ k, k ≠ 5 → R1 k = r k) (hR5 : ∀ p, p < en (sE σ) → R1 5 p = (eo (sE σ) p : Int) + (sh (sr σ) (ep (sE σ)) (st σ) p : Int)) :
    CRel (pu (pu (pu f 5 (n6 (be (sr σ) (ep (sE σ)) (st σ)))) 9 ((es (sE σ) : Int) + (lo (sr σ) (ep (sE σ)) (st σ) : Int))) 8 ((ep (sE σ) : Int) + 1)) R1 (withE σ (en (sE σ), ek (sE σ), be (sr σ) (ep (sE σ)) (st σ), fun p => eo (sE σ) p + sh (sr σ) (ep (sE σ)) (st σ) p, ec (sE σ), eT (sE σ), eb (sE σ), el (sE σ), ep (sE σ) + 1, es (sE σ) + lo (sr σ) (ep (sE σ)) (st σ))) := by
  unfold CRel at *
  rw [hR1 0 (by decide), hR1 1 (by decide), hR1 2 (by decide), hR1 3 (by decide), hR1 4 (by decide), hR1 6 (by decide), hR1 7 (by decide), hR1 8 (by decide), hR1 9 (by decide), hR1 10 (by decide), hR1 11 (by decide), hR1 12 (by decide)]
  obtain ⟨g1, g2, ⟨e1, e2, e3, e4, e5, e6, e7, e8, e9, e10, e11, e12⟩, g4⟩ := h
  exact ⟨g1, g2, ⟨e1, e2, rfl, e4, e5, rfl, rfl, e8, e9, fun p hp => hR5 p hp, e11, e12⟩, g4⟩
theorem again_rel {f : Nat → Int} {r : Nat → Nat → Int} {σ : Sg} (h : CRel f r σ) : CRel (pu f 8 0) r (withE σ (setPd (sE σ) 0)) := by
  obtain ⟨g1, g2, ⟨e1, e2, e3, e4, e5, e6, e7, e8, e9, e10, e11, e12⟩, g4⟩ := h
  exact ⟨g1, g2, ⟨e1, e2, e3, e4, e5, rfl, e7, e8, e9, e10, e11, e12⟩, g4⟩
theorem cups_rel {f : Nat → Int} {r : Nat → Nat → Int} {σ : Sg} (h : CRel f r σ) : CRel (pu f 25 ((s2 σ : Int) + 1)) r (withC σ (s2 σ + 1) (s3 σ)) := by
  obtain ⟨g1, g2, g3, g4, g5, g6, g7, g8⟩ := h
  exact ⟨g1, g2, g3, g4, g5, g6, rfl, g8⟩
theorem order_rel {f : Nat → Int} {r : Nat → Nat → Int} {σ : Sg} (h : CRel f r σ) : CRel (pu f 26 ((s3 σ : Int) + 1)) r (withC σ (s2 σ) (s3 σ + 1)) := by
  obtain ⟨g1, g2, g3, g4, g5, g6, g7, g8⟩ := h
  exact ⟨g1, g2, g3, g4, g5, g6, g7, rfl⟩
theorem tell_rel {f : Nat → Int} {r : Nat → Nat → Int} {σ : Sg} {a b : Int} (h : CRel f r σ) :
    CRel (pu f 3 ((eT (sE σ) : Int) + 1)) (pu (pu r 6 (pu (r 6) (eT (sE σ)) (a.toNat : Int))) 7 (pu (r 7) (eT (sE σ)) (b.toNat : Int))) (withE σ (setTold (sE σ) (eT (sE σ) + 1) (pu (eb (sE σ)) (eT (sE σ)) a.toNat) (pu (el (sE σ)) (eT (sE σ)) b.toNat))) := by
  obtain ⟨g1, g2, ⟨e1, e2, e3, e4, e5, e6, e7, e8, e9, e10, e11, e12⟩, g4⟩ := h
  refine ⟨g1, g2, ⟨rfl, e2, e3, e4, e5, e6, e7, e8, e9, e10, fun k hk => ?_, fun k hk => ?_⟩, g4⟩
  · show pu (r 6) (eT (sE σ)) (a.toNat : Int) k = ((pu (eb (sE σ)) (eT (sE σ)) a.toNat k : Nat) : Int)
    have hk : k < eT (sE σ) + 1 := hk
    rw [pu_at, pu_at]; split
    · rfl
    · exact e11 k (by omega)
  · show pu (r 7) (eT (sE σ)) (b.toNat : Int) k = ((pu (el (sE σ)) (eT (sE σ)) b.toNat k : Nat) : Int)
    have hk : k < eT (sE σ) + 1 := hk
    rw [pu_at, pu_at]; split
    · rfl
    · exact e12 k (by omega)
theorem forget_rel {f : Nat → Int} {r : Nat → Nat → Int} {σ : Sg} (h : CRel f r σ) : CRel (pu f 3 0) r (withE σ (setTold (sE σ) 0 (eb (sE σ)) (el (sE σ)))) := by
  obtain ⟨g1, g2, ⟨e1, e2, e3, e4, e5, e6, e7, e8, e9, e10, e11, e12⟩, g4⟩ := h
  exact ⟨g1, g2, ⟨rfl, e2, e3, e4, e5, e6, e7, e8, e9, e10, fun k hk => absurd hk (Nat.not_lt_zero k), fun k hk => absurd hk (Nat.not_lt_zero k)⟩, g4⟩
theorem image_rel {f : Nat → Int} {r : Nat → Nat → Int} {σ : Sg} (h : CRel f r σ) (hn : en (sE σ) ≤ 4) (hT : eT (sE σ) ≤ 6) : CRel (pu (pu (pu (pu (pu (pu (pu (pu f 10 (f 3)) 11 (f 4)) 12 (f 5)) 13 (f 6)) 14 (f 7)) 15 (f 8)) 16 (f 9)) 23 1) (pu (pu (pu (pu (pu r 8 (fun j => if j < 4 then (r 3) j else (r 8) j)) 9 (fun j => if j < 4 then (r 4) j else (r 9) j)) 10 (fun j => if j < 4 then (r 5) j else (r 10) j)) 11 (fun j => if j < 6 then (r 6) j else (r 11) j)) 12 (fun j => if j < 6 then (r 7) j else (r 12) j)) (sl σ, sg σ, sP σ, sE σ, true, sE σ, s1 σ, s2 σ, s3 σ) := by
  obtain ⟨g1, g2, g3, g4, g5, g6⟩ := h
  obtain ⟨e1, e2, e3, e4, e5, e6, e7, e8, e9, e10, e11, e12⟩ := id g3
  refine ⟨g1, g2, g3, fun _ => ⟨e1, e2, e3, e4, e5, e6, e7, fun p hp => ?_, fun p hp => ?_, fun p hp => ?_, fun p hp => ?_, fun p hp => ?_⟩, rfl, g6⟩
  · show (if p < 4 then (r 3) p else (r 8) p) = _
    rw [if_pos (Nat.lt_of_lt_of_le hp hn)]; exact e8 p hp
  · show (if p < 4 then (r 4) p else (r 9) p) = _
    rw [if_pos (Nat.lt_of_lt_of_le hp hn)]; exact e9 p hp
  · show (if p < 4 then (r 5) p else (r 10) p) = _
    rw [if_pos (Nat.lt_of_lt_of_le hp hn)]; exact e10 p hp
  · show (if p < 6 then (r 6) p else (r 11) p) = _
    rw [if_pos (Nat.lt_of_lt_of_le hp hT)]; exact e11 p hp
  · show (if p < 6 then (r 7) p else (r 12) p) = _
    rw [if_pos (Nat.lt_of_lt_of_le hp hT)]; exact e12 p hp
theorem restore_rel {f : Nat → Int} {r : Nat → Nat → Int} {σ : Sg} (h : CRel f r σ) (h4 : sk σ = true) (hn : en (sK σ) ≤ 4) (hT : eT (sK σ) ≤ 6) : CRel (pu (pu (pu (pu (pu (pu (pu f 3 (f 10)) 4 (f 11)) 5 (f 12)) 6 (f 13)) 7 (f 14)) 8 (f 15)) 9 (f 16)) (pu (pu (pu (pu (pu r 3 (fun j => if j < 4 then (r 8) j else (r 3) j)) 4 (fun j => if j < 4 then (r 9) j else (r 4) j)) 5 (fun j => if j < 4 then (r 10) j else (r 5) j)) 6 (fun j => if j < 6 then (r 11) j else (r 6) j)) 7 (fun j => if j < 6 then (r 12) j else (r 7) j)) (withE σ (sK σ)) := by
  obtain ⟨g1, g2, g3, g4, g5⟩ := h
  obtain ⟨e1, e2, e3, e4, e5, e6, e7, e8, e9, e10, e11, e12⟩ := g4 h4
  refine ⟨g1, g2, ⟨e1, e2, e3, e4, e5, e6, e7, fun p hp => ?_, fun p hp => ?_, fun p hp => ?_, fun p hp => ?_, fun p hp => ?_⟩, g4, g5⟩
  · show (if p < 4 then (r 8) p else (r 3) p) = _
    rw [if_pos (Nat.lt_of_lt_of_le hp hn)]; exact e8 p hp
  · show (if p < 4 then (r 9) p else (r 4) p) = _
    rw [if_pos (Nat.lt_of_lt_of_le hp hn)]; exact e9 p hp
  · show (if p < 4 then (r 10) p else (r 5) p) = _
    rw [if_pos (Nat.lt_of_lt_of_le hp hn)]; exact e10 p hp
  · show (if p < 6 then (r 11) p else (r 6) p) = _
    rw [if_pos (Nat.lt_of_lt_of_le hp hT)]; exact e11 p hp
  · show (if p < 6 then (r 12) p else (r 7) p) = _
    rw [if_pos (Nat.lt_of_lt_of_le hp hT)]; exact e12 p hp
theorem bb_ext {w w2 : Nat → Nat} (n : Nat) (h : ∀ b, b < n → w b = w2 b) : bb w n = bb w2 n := by
  induction n with
  | zero => rfl
  | succ n ih => simp only [bb]; rw [ih (fun b hb => h b (by omega)), h n (by omega)]
theorem cn_ext {po : Nat → Bool} {A B : Nat → Nat} (v k : Nat) (h : ∀ x, x < k → A x = B x) : cn po A v k = cn po B v k := by
  induction k with
  | zero => rfl
  | succ k ih => simp only [cn]; rw [ih (fun x hx => h x (by omega)), h k (by omega)]
theorem lis_eq (σ : Sg) (p : Nat) : (if mk (gs σ p) 10 = 0 then -1 else (bb (fun b => mx (fun v => cn (gs σ p) (fun x => lsv (sr σ) (pu (st σ) p x) (pb (sP σ)) b) v 10) 5) (pb (sP σ))).1) = lis σ p := by
  unfold lis
  rw [bb_ext (w2 := wo σ p) (pb (sP σ)) (fun b hb => ?_)]
  unfold wo
  exact mx_ext (fun v _ => cn_ext v 10 (fun x _ => lsv_at hb))
-- some order loses less than 25
def cu (us : Nat → Bool) (n : Nat) : Nat := su (fun b => if us b then 1 else 0) n
theorem cu_free {us : Nat → Bool} (n : Nat) (h : cu us n < n) : ∃ b, b < n ∧ us b = false := by
  induction n with
  | zero => exact absurd h (Nat.not_lt_zero _)
  | succ n ih =>
    cases hb : us n with
    | false => exact ⟨n, by omega, hb⟩
    | true =>
      have h2 : cu us (n + 1) = cu us n + 1 := by simp [cu, su, hb]
      obtain ⟨b, h3, h4⟩ := ih (by omega)
      exact ⟨b, by omega, h4⟩
theorem cu_set {us : Nat → Bool} {b n : Nat} (hb : b < n) (h : us b = false) : cu (pu us b true) n = cu us n + 1 := by
  have e : (fun x => if pu us b true x then 1 else 0) = pu (fun x => if us x then 1 else 0) b 1 := by
    funext x; rw [pu_at, pu_at]; split <;> simp
  unfold cu
  rw [e, su_pu (by simp [h]), if_pos hb]
theorem ordF_24 {ρ : Ru} (hρ : RuOK ρ) (k j : Nat) (us : Nat → Bool) (t : Nat → Nat) (lost : Nat) (row : Nat → Nat) (z : Nat × (Nat → Nat)) (hl : lost + 4 * k ≤ 24) (hu : cu us (rb ρ) + k = rb ρ) : (ordF ρ k j us t lost row z).1 ≤ 24 := by
  induction k generalizing j us t lost row z with
  | zero => simp only [ordF]; split
            · show lost ≤ 24; omega
            · omega
  | succ k ih =>
    obtain ⟨b, hb, hub⟩ := cu_free (us := us) (rb ρ) (by omega)
    simp only [ordF]
    have q : ∀ n, b < n → (ordC ρ (fun us2 t2 lost2 row2 z2 => ordF ρ k (j + 1) us2 t2 lost2 row2 z2) j us t lost row n z).1 ≤ 24 := by
      intro n
      induction n with
      | zero => intro h; exact absurd h (Nat.not_lt_zero _)
      | succ n ihn =>
        intro hn
        simp only [ordC]
        by_cases hbn : b = n
        · subst hbn
          rw [if_neg (by rw [hub]; decide)]
          have h4 := lo_le ρ b t hρ
          exact ih _ _ _ _ _ _ (by omega) (by rw [cu_set hb hub]; omega)
        · split
          · exact ihn (by omega)
          · exact ordF_le _ _ _ _ _ _ _ (ihn (by omega))
    exact q _ hb
theorem ordR_24 {σ : Sg} (hρ : RuOK (sr σ)) : (ordR σ).1 ≤ 24 := by
  have h6 : pb (sP σ) ≤ 6 := hρ.2.2.2.1
  refine ordF_24 hρ _ _ _ _ _ _ _ (by omega) ?_
  show cu (fun _ => false) (pb (sP σ)) + pb (sP σ) = pb (sP σ)
  have e : cu (fun _ => false) (pb (sP σ)) = 0 := su_0 _
  omega
