/-- only the model's scratch rows differ -/
def frR (r r1 : Nat → Nat → Int) : Prop := ∀ j, j ≠ 1 → j ≠ 5 → j ≠ 6 → j ≠ 7 → j ≠ 8 → j ≠ 9 → j ≠ 10 → r1 j = r j
theorem frR_rf (r : Nat → Nat → Int) : frR r r := fun _ _ _ _ _ _ _ _ => rfl
theorem frR.tr {r r1 r2 : Nat → Nat → Int} (h : frR r r1) (h2 : frR r1 r2) : frR r r2 := fun j a b c d e g i => (h2 j a b c d e g i).trans (h j a b c d e g i)
theorem frR.pr {r r1 : Nat → Nat → Int} (h : frR r r1) (k : Nat) (x : Nat → Int) (hk : k = 1 ∨ 5 ≤ k ∧ k ≤ 10) : frR r (pu r1 k x) := fun j a b c d e g i => by rw [pu_ne _ _ (by omega)]; exact h j a b c d e g i
theorem frR_lay {A n : Nat} {E : Nat → Int} {r r1 : Nat → Nat → Int} (h : lay A n E r r1) (hA : A = 1 ∨ 5 ≤ A ∧ A ≤ 10) : frR r r1 := fun j a b c d e g i => h.1 j (by omega)
theorem frR_567 {r r1 : Nat → Nat → Int} (h : ∀ k, k ≠ 5 → k ≠ 6 → k ≠ 7 → r1 k = r k) : frR r r1 := fun j _ b c d _ _ _ => h j b c d
theorem frR_1 {A : Nat} {r r1 : Nat → Nat → Int} (h : ∀ k, k ≠ A → r1 k = r k) (hA : A = 1 ∨ 5 ≤ A ∧ A ≤ 10) : frR r r1 := fun j a b c d e g i => h j (by omega)
theorem frR.at {r r1 : Nat → Nat → Int} (h : frR r r1) (j : Nat) (hj : j = 0 ∨ j = 2 ∨ j = 3 ∨ j = 4 ∨ j = 11 ∨ j = 12) : r1 j = r j := h j (by omega) (by omega) (by omega) (by omega) (by omega) (by omega) (by omega)
theorem MRel_r {f : Nat → Int} {r r1 : Nat → Nat → Int} {σ : Sg} (h : MRel f r σ) (q : frR r r1) : MRel f r1 σ := by
  unfold MRel at *
  rw [q.at 0 (by omega), q.at 2 (by omega), q.at 3 (by omega), q.at 4 (by omega), q.at 11 (by omega), q.at 12 (by omega)]
  exact h
theorem MRel_f {f f1 : Nat → Int} {r : Nat → Nat → Int} {σ : Sg} (h : MRel f r σ) (q : ∀ j, j ≠ 1 → j ≠ 2 → j ≠ 3 → j ≠ 13 → j ≠ 19 → f1 j = f j) : MRel f1 r σ := by
  unfold MRel at *
  rw [q 0 (by decide) (by decide) (by decide) (by decide) (by decide), q 4 (by decide) (by decide) (by decide) (by decide) (by decide), q 5 (by decide) (by decide) (by decide) (by decide) (by decide), q 6 (by decide) (by decide) (by decide) (by decide) (by decide), q 7 (by decide) (by decide) (by decide) (by decide) (by decide), q 8 (by decide) (by decide) (by decide) (by decide) (by decide), q 9 (by decide) (by decide) (by decide) (by decide) (by decide), q 10 (by decide) (by decide) (by decide) (by decide) (by decide), q 11 (by decide) (by decide) (by decide) (by decide) (by decide), q 12 (by decide) (by decide) (by decide) (by decide) (by decide), q 14 (by decide) (by decide) (by decide) (by decide) (by decide), q 15 (by decide) (by decide) (by decide) (by decide) (by decide), q 16 (by decide) (by decide) (by decide) (by decide) (by decide), q 17 (by decide) (by decide) (by decide) (by decide) (by decide), q 18 (by decide) (by decide) (by decide) (by decide) (by decide)]
  exact h
def qM (cI : ClassId) (q : Nat → Nat) (o : Sg × Int) : Option Value → va_W → Prop := pC (mW cI q) (fun v f1 r1 => v = some (.int (zI o.2)) ∧ MRel f1 r1 o.1)
theorem qM_ret {cI : ClassId} {q : Nat → Nat} {o : Sg × Int} {σ1 : Sg} {a : Int} {f1 : Nat → Int} {r1 : Nat → Nat → Int} (ho : o = (σ1, a)) (h : MRel f1 r1 σ1) : qM cI q o (some (.int (zI a))) (mW cI q f1 r1) := by subst ho; exact ⟨f1, r1, rfl, rfl, h⟩
theorem m_letter {f : Nat → Int} {r : Nat → Nat → Int} {σ : Sg} {a : Int} (h : MRel f r σ) (ha : 0 ≤ a) : MRel (pu f 0 ((sl σ : Int) + 1)) (pu r 0 (pu (r 0) (sl σ) a)) (sl σ + 1, pu (sg σ) (sl σ) a.toNat, σ.2.2) := by
  refine ⟨⟨rfl, fun k hk => ?_⟩, h.2⟩
  show pu (r 0) (sl σ) a k = ((pu (sg σ) (sl σ) a.toNat k : Nat) : Int)
  have hk : k < sl σ + 1 := hk
  rw [pu_at, pu_at]; split
  · omega
  · exact h.1.2 k (by omega)
theorem m_player {f : Nat → Int} {r : Nat → Nat → Int} {σ : Sg} {a b : Int} (h : MRel f r σ) (ha : 0 ≤ a) (hb : 0 ≤ b) :
    MRel (pu f 9 ((en (sE σ) : Int) + 1)) (pu (pu (pu (pu r 3 (pu (r 3) (4 * en (sE σ)) a)) 3 (pu (pu (r 3) (4 * en (sE σ)) a) (4 * en (sE σ) + 1) b)) 3 (pu (pu (pu (r 3) (4 * en (sE σ)) a) (4 * en (sE σ) + 1) b) (4 * en (sE σ) + 2) 0)) 3 (pu (pu (pu (pu (r 3) (4 * en (sE σ)) a) (4 * en (sE σ) + 1) b) (4 * en (sE σ) + 2) 0) (4 * en (sE σ) + 3) 0)) (withE σ (en (sE σ) + 1, pu (ek (sE σ)) (en (sE σ)) a.toNat, pu (et (sE σ)) (en (sE σ)) b.toNat, pu (eo (sE σ)) (en (sE σ)) 0, pu (ec (sE σ)) (en (sE σ)) 0, (sE σ).2.2.2.2.2)) := by
  obtain ⟨g1, g2, ⟨e1, e2, e3, e4, e5, e6, e7, e8, e9, e10⟩, g4⟩ := h
  refine ⟨g1, g2, ⟨rfl, e2, e3, e4, fun p hp => ?_, fun p hp => ?_, fun p hp => ?_, fun p hp => ?_, e9, e10⟩, g4⟩
  · show pu (pu (pu (pu (r 3) (4 * en (sE σ)) a) (4 * en (sE σ) + 1) b) (4 * en (sE σ) + 2) 0) (4 * en (sE σ) + 3) 0 (4 * p) = ((pu (ek (sE σ)) (en (sE σ)) a.toNat p : Nat) : Int)
    have hp : p < en (sE σ) + 1 := hp
    simp only [pu_at]
    rw [if_neg (by omega), if_neg (by omega), if_neg (by omega)]
    by_cases h : p = en (sE σ)
    · rw [if_pos (by omega), if_pos h]; omega
    · rw [if_neg (by omega), if_neg h]; exact e5 p (by omega)
  · show pu (pu (pu (pu (r 3) (4 * en (sE σ)) a) (4 * en (sE σ) + 1) b) (4 * en (sE σ) + 2) 0) (4 * en (sE σ) + 3) 0 (4 * p + 1) = ((pu (et (sE σ)) (en (sE σ)) b.toNat p : Nat) : Int)
    have hp : p < en (sE σ) + 1 := hp
    simp only [pu_at]
    rw [if_neg (by omega), if_neg (by omega)]
    by_cases h : p = en (sE σ)
    · rw [if_pos (by omega), if_pos h]; omega
    · rw [if_neg (by omega), if_neg (by omega), if_neg h]; exact e6 p (by omega)
  · show pu (pu (pu (pu (r 3) (4 * en (sE σ)) a) (4 * en (sE σ) + 1) b) (4 * en (sE σ) + 2) 0) (4 * en (sE σ) + 3) 0 (4 * p + 2) = ((pu (eo (sE σ)) (en (sE σ)) 0 p : Nat) : Int)
    have hp : p < en (sE σ) + 1 := hp
    simp only [pu_at]
    rw [if_neg (by omega)]
    by_cases h : p = en (sE σ)
    · rw [if_pos (by omega), if_pos h]; rfl
    · rw [if_neg (by omega), if_neg (by omega), if_neg (by omega), if_neg h]; exact e7 p (by omega)
  · show pu (pu (pu (pu (r 3) (4 * en (sE σ)) a) (4 * en (sE σ) + 1) b) (4 * en (sE σ) + 2) 0) (4 * en (sE σ) + 3) 0 (4 * p + 3) = ((pu (ec (sE σ)) (en (sE σ)) 0 p : Nat) : Int)
    have hp : p < en (sE σ) + 1 := hp
    simp only [pu_at]
    by_cases h : p = en (sE σ)
    · rw [if_pos (by omega), if_pos h]; rfl
    · rw [if_neg (by omega), if_neg (by omega), if_neg (by omega), if_neg (by omega), if_neg h]; exact e8 p (by omega)
theorem m_coffee {f : Nat → Int} {r R : Nat → Nat → Int} {σ : Sg} {a : Int} (h : MRel f r σ) (_ha : a.toNat < en (sE σ)) (hk : ∀ j, j = 0 ∨ j = 2 ∨ j = 4 ∨ j = 11 ∨ j = 12 → R j = r j) (h3 : ∀ p, p < en (sE σ) → R 3 (4 * p + 1) = (rf (st σ) a.toNat p : Int)) (h4 : ∀ j, j % 4 ≠ 1 → R 3 j = r 3 j) :
    MRel f (pu R 3 (pu (R 3) (4 * a.toNat + 3) ((ec (sE σ) a.toNat : Int) + 1))) (withE σ (en (sE σ), ek (sE σ), rf (st σ) a.toNat, eo (sE σ), pu (ec (sE σ)) a.toNat (ec (sE σ) a.toNat + 1), (sE σ).2.2.2.2.2)) := by
  unfold MRel at *
  rw [pu_ne R _ (show (0 : Nat) ≠ 3 by decide), pu_ne R _ (show (2 : Nat) ≠ 3 by decide), pu_ne R _ (show (4 : Nat) ≠ 3 by decide), pu_ne R _ (show (11 : Nat) ≠ 3 by decide), pu_ne R _ (show (12 : Nat) ≠ 3 by decide), pu_eq R, hk 0 (by omega), hk 2 (by omega), hk 4 (by omega), hk 11 (by omega), hk 12 (by omega)]
  obtain ⟨g1, g2, ⟨e1, e2, e3, e4, e5, e6, e7, e8, e9, e10⟩, g4⟩ := h
  refine ⟨g1, g2, ⟨e1, e2, e3, e4, fun p hp => ?_, fun p hp => ?_, fun p hp => ?_, fun p hp => ?_, e9, e10⟩, g4⟩
  · rw [pu_ne _ _ (by omega), h4 _ (by omega)]; exact e5 p hp
  · rw [pu_ne _ _ (by omega)]; exact h3 p hp
  · rw [pu_ne _ _ (by omega), h4 _ (by omega)]; exact e7 p hp
  · show _ = ((pu (ec (sE σ)) a.toNat (ec (sE σ) a.toNat + 1) p : Nat) : Int)
    rw [pu_at, pu_at]
    by_cases hq : p = a.toNat
    · rw [if_pos (by omega), if_pos hq]; omega
    · rw [if_neg (by omega), if_neg hq, h4 _ (by omega)]; exact e8 p hp
theorem m_tire {f : Nat → Int} {r : Nat → Nat → Int} {σ : Sg} {a b : Int} (h : MRel f r σ) (hb : 0 ≤ b) :
    MRel f (pu r 3 (pu (r 3) (4 * a.toNat + 1) b)) (withE σ (setT (sE σ) (pu (st σ) a.toNat b.toNat))) := by
  obtain ⟨g1, g2, ⟨e1, e2, e3, e4, e5, e6, e7, e8, e9, e10⟩, g4⟩ := h
  refine ⟨g1, g2, ⟨e1, e2, e3, e4, fun p hp => ?_, fun p hp => ?_, fun p hp => ?_, fun p hp => ?_, e9, e10⟩, g4⟩
  · rw [pu_eq r, pu_ne _ _ (by omega)]; exact e5 p hp
  · show (pu r 3 (pu (r 3) (4 * a.toNat + 1) b)) 3 (4 * p + 1) = ((pu (st σ) a.toNat b.toNat p : Nat) : Int)
    rw [pu_eq r, pu_at, pu_at]
    by_cases hq : p = a.toNat
    · rw [if_pos (by omega), if_pos hq]; omega
    · rw [if_neg (by omega), if_neg hq]; exact e6 p hp
  · rw [pu_eq r, pu_ne _ _ (by omega)]; exact e7 p hp
  · rw [pu_eq r, pu_ne _ _ (by omega)]; exact e8 p hp
theorem m_play {f : Nat → Int} {r R : Nat → Nat → Int} {σ : Sg} (h : MRel f r σ) (hk : ∀ j, j = 0 ∨ j = 2 ∨ j = 4 ∨ j = 11 ∨ j = 12 → R j = r j) (h3 : ∀ p, p < en (sE σ) → R 3 (4 * p + 1) = (be (sr σ) (ep (sE σ)) (st σ) p : Int)) (h5 : ∀ p, p < en (sE σ) → R 3 (4 * p + 2) = (eo (sE σ) p : Int) + (sh (sr σ) (ep (sE σ)) (st σ) p : Int)) (h4 : ∀ j, j % 4 ≠ 1 → j % 4 ≠ 2 → R 3 j = r 3 j) :
    MRel (pu (pu f 7 ((es (sE σ) : Int) + (lo (sr σ) (ep (sE σ)) (st σ) : Int))) 6 ((ep (sE σ) : Int) + 1)) R (withE σ (en (sE σ), ek (sE σ), be (sr σ) (ep (sE σ)) (st σ), fun p => eo (sE σ) p + sh (sr σ) (ep (sE σ)) (st σ) p, ec (sE σ), eT (sE σ), eb (sE σ), el (sE σ), ep (sE σ) + 1, es (sE σ) + lo (sr σ) (ep (sE σ)) (st σ))) := by
  unfold MRel at *
  rw [hk 0 (by omega), hk 2 (by omega), hk 4 (by omega), hk 11 (by omega), hk 12 (by omega)]
  obtain ⟨g1, g2, ⟨e1, e2, e3, e4, e5, e6, e7, e8, e9, e10⟩, g4⟩ := h
  exact ⟨g1, g2, ⟨e1, rfl, rfl, e4, fun p hp => by rw [h4 _ (by omega) (by omega)]; exact e5 p hp, fun p hp => h3 p hp, fun p hp => h5 p hp, fun p hp => by rw [h4 _ (by omega) (by omega)]; exact e8 p hp, e9, e10⟩, g4⟩
theorem m_again {f : Nat → Int} {r : Nat → Nat → Int} {σ : Sg} (h : MRel f r σ) : MRel (pu f 6 0) r (withE σ (setPd (sE σ) 0)) := by
  obtain ⟨g1, g2, ⟨e1, e2, e3, e4, e5, e6, e7, e8, e9, e10⟩, g4⟩ := h
  exact ⟨g1, g2, ⟨e1, rfl, e3, e4, e5, e6, e7, e8, e9, e10⟩, g4⟩
theorem m_cups {f : Nat → Int} {r : Nat → Nat → Int} {σ : Sg} (h : MRel f r σ) : MRel (pu f 11 ((s2 σ : Int) + 1)) r (withC σ (s2 σ + 1) (s3 σ)) := by
  obtain ⟨g1, g2, g3, g4, g5, g6, g7, g8⟩ := h
  exact ⟨g1, g2, g3, g4, g5, rfl, g7, g8⟩
theorem m_order {f : Nat → Int} {r : Nat → Nat → Int} {σ : Sg} (h : MRel f r σ) : MRel (pu f 12 ((s3 σ : Int) + 1)) r (withC σ (s2 σ) (s3 σ + 1)) := by
  obtain ⟨g1, g2, g3, g4, g5, g6, g7, g8⟩ := h
  exact ⟨g1, g2, g3, g4, g5, g6, rfl, g8⟩
theorem m_tell {f : Nat → Int} {r : Nat → Nat → Int} {σ : Sg} {a b : Int} (h : MRel f r σ) (ha : 0 ≤ a) (hb : 0 ≤ b) :
    MRel (pu f 10 ((eT (sE σ) : Int) + 1)) (pu (pu r 4 (pu (r 4) (2 * eT (sE σ)) a)) 4 (pu (pu (r 4) (2 * eT (sE σ)) a) (2 * eT (sE σ) + 1) b)) (withE σ (setTold (sE σ) (eT (sE σ) + 1) (pu (eb (sE σ)) (eT (sE σ)) a.toNat) (pu (el (sE σ)) (eT (sE σ)) b.toNat))) := by
  obtain ⟨g1, g2, ⟨e1, e2, e3, e4, e5, e6, e7, e8, e9, e10⟩, g4⟩ := h
  refine ⟨g1, g2, ⟨e1, e2, e3, rfl, e5, e6, e7, e8, fun k hk => ?_, fun k hk => ?_⟩, g4⟩
  · show pu (pu (r 4) (2 * eT (sE σ)) a) (2 * eT (sE σ) + 1) b (2 * k) = ((pu (eb (sE σ)) (eT (sE σ)) a.toNat k : Nat) : Int)
    have hk : k < eT (sE σ) + 1 := hk
    rw [pu_ne _ _ (by omega), pu_at, pu_at]
    by_cases hq : k = eT (sE σ)
    · rw [if_pos (by omega), if_pos hq]; omega
    · rw [if_neg (by omega), if_neg hq]; exact e9 k (by omega)
  · show pu (pu (r 4) (2 * eT (sE σ)) a) (2 * eT (sE σ) + 1) b (2 * k + 1) = ((pu (el (sE σ)) (eT (sE σ)) b.toNat k : Nat) : Int)
    have hk : k < eT (sE σ) + 1 := hk
    simp only [pu_at]
    by_cases hq : k = eT (sE σ)
    · rw [if_pos (by omega), if_pos hq]; omega
    · rw [if_neg (by omega), if_neg (by omega), if_neg hq]; exact e10 k (by omega)
theorem m_forget {f : Nat → Int} {r : Nat → Nat → Int} {σ : Sg} (h : MRel f r σ) : MRel (pu f 10 0) r (withE σ (setTold (sE σ) 0 (eb (sE σ)) (el (sE σ)))) := by
  obtain ⟨g1, g2, ⟨e1, e2, e3, e4, e5, e6, e7, e8, e9, e10⟩, g4⟩ := h
  exact ⟨g1, g2, ⟨e1, e2, e3, rfl, e5, e6, e7, e8, fun k hk => absurd hk (Nat.not_lt_zero k), fun k hk => absurd hk (Nat.not_lt_zero k)⟩, g4⟩
theorem gEvM_cp {n pl lo T : Int} {rows rows2 tolds tolds2 : Nat → Int} {E : Ev} (h : gEvM n pl lo T rows tolds E) (hn : en E ≤ 4) (hT : eT E ≤ 6) (h1 : ∀ j, j < 16 → rows2 j = rows j) (h2 : ∀ j, j < 12 → tolds2 j = tolds j) : gEvM n pl lo T rows2 tolds2 E := by
  obtain ⟨e1, e2, e3, e4, e5, e6, e7, e8, e9, e10⟩ := h
  exact ⟨e1, e2, e3, e4, fun p hp => by rw [h1 _ (by omega)]; exact e5 p hp, fun p hp => by rw [h1 _ (by omega)]; exact e6 p hp, fun p hp => by rw [h1 _ (by omega)]; exact e7 p hp, fun p hp => by rw [h1 _ (by omega)]; exact e8 p hp, fun k hk => by rw [h2 _ (by omega)]; exact e9 k hk, fun k hk => by rw [h2 _ (by omega)]; exact e10 k hk⟩
theorem m_image {f : Nat → Int} {r R1 R2 : Nat → Nat → Int} {σ : Sg} (h : MRel f r σ) (hn : en (sE σ) ≤ 4) (hT : eT (sE σ) ≤ 6) (h1 : lay 11 16 (r 3) r R1) (h2 : lay 12 12 (R1 4) R1 R2) :
    MRel (pu (pu (pu (pu (pu f 15 (en (sE σ) : Int)) 16 (ep (sE σ) : Int)) 17 (es (sE σ) : Int)) 18 (eT (sE σ) : Int)) 14 (s1 σ : Int)) R2 (sl σ, sg σ, sP σ, sE σ, true, sE σ, s1 σ, s2 σ, s3 σ) := by
  have k : ∀ j, j ≠ 11 → j ≠ 12 → R2 j = r j := fun j a b => (h2.1 j b).trans (h1.1 j a)
  unfold MRel at *
  rw [k 0 (by decide) (by decide), k 2 (by decide) (by decide), k 3 (by decide) (by decide), k 4 (by decide) (by decide)]
  obtain ⟨g1, g2, g3, g4, g5, g6, g7, g8⟩ := h
  have hg : gEvM (en (sE σ) : Int) (ep (sE σ) : Int) (es (sE σ) : Int) (eT (sE σ) : Int) (r 3) (r 4) (sE σ) := ⟨rfl, rfl, rfl, rfl, g3.2.2.2.2⟩
  refine ⟨g1, g2, g3, fun _ => ?_, g5, g6, g7, ?_⟩
  · exact gEvM_cp hg hn hT (fun j hj => by rw [h2.1 11 (by decide)]; exact h1.2 j hj) (fun j hj => by rw [h2.2 j hj, h1.1 4 (by decide)])
  · show -1 ≤ (s1 σ : Int) ∧ (s1 σ : Int) ≤ (s1 σ : Int) ∧ ((s1 σ : Int) = (s1 σ : Int) ↔ true = true)
    exact ⟨by omega, Int.le_refl _, ⟨fun _ => rfl, fun _ => rfl⟩⟩
theorem m_restore {f : Nat → Int} {r R1 R2 : Nat → Nat → Int} {σ : Sg} (h : MRel f r σ) (h4 : sk σ = true) (hn : en (sK σ) ≤ 4) (hT : eT (sK σ) ≤ 6) (h1 : lay 3 16 (r 11) r R1) (h2 : lay 4 12 (R1 12) R1 R2) :
    MRel (pu (pu (pu (pu f 9 (en (sK σ) : Int)) 6 (ep (sK σ) : Int)) 7 (es (sK σ) : Int)) 10 (eT (sK σ) : Int)) R2 (withE σ (sK σ)) := by
  have k : ∀ j, j ≠ 3 → j ≠ 4 → R2 j = r j := fun j a b => (h2.1 j b).trans (h1.1 j a)
  unfold MRel at *
  rw [k 0 (by decide) (by decide), k 2 (by decide) (by decide), k 11 (by decide) (by decide), k 12 (by decide) (by decide)]
  obtain ⟨g1, g2, g3, g4, g5⟩ := h
  have g9 := g4 h4
  have hg : gEvM (en (sK σ) : Int) (ep (sK σ) : Int) (es (sK σ) : Int) (eT (sK σ) : Int) (r 11) (r 12) (sK σ) := ⟨rfl, rfl, rfl, rfl, g9.2.2.2.2⟩
  exact ⟨g1, g2, gEvM_cp hg hn hT (fun j hj => by rw [h2.1 3 (by decide)]; exact h1.2 j hj) (fun j hj => by rw [h2.2 j hj, h1.1 12 (by decide)]), g4, g5⟩
theorem su_bit {w : Nat → Bool} (k : Nat) : su (fun p => if w p then 1 else 0) (k + 1) = su (fun p => if w p then 1 else 0) k + (if w k then 1 else 0) := rfl
theorem cu_more {w : Nat → Bool} {n : Nat} (h : ∀ p, n ≤ p → w p = false) (m : Nat) (hm : n ≤ m) : su (fun p => if w p then 1 else 0) m = su (fun p => if w p then 1 else 0) n := by
  induction m with
  | zero => rw [show n = 0 by omega]
  | succ m ih =>
    by_cases hk : n = m + 1
    · rw [hk]
    · rw [su_bit, ih (by omega), h m (by omega)]; rfl
