-- WHAT HOLDS OF THE STATE IS KEPT BY EVERY CALL
theorem eBd_up {E : Ev} {B : Nat} (h : eBd E B) : eBd E (B + 1) := ⟨fun p => by have := h.1 p; omega, fun p => by have := h.2.1 p; omega, by have := h.2.2; omega⟩
theorem sOK_up {σ : Sg} {B : Nat} (h : sOK σ B) : sOK σ (B + 1) := by
  obtain ⟨h1, h2, h3, h4, h5, h6, h7, h8, h9, h10⟩ := h
  exact ⟨h1, h2, h3, h4, h5, by omega, h7, h8, eBd_up h9, fun z => eBd_up (h10 z)⟩
theorem sOK_E {σ : Sg} {B : Nat} {E : Ev} (h : sOK σ B) (hE : eOK (sP σ) E) (hb : eBd E B) : sOK (withE σ E) B := by
  obtain ⟨h1, h2, h3, h4, h5, h6, h7, h8, h9, h10⟩ := h
  exact ⟨h1, h2, h3, hE, h5, h6, h7, h8, hb, h10⟩
theorem k_letter {σ : Sg} {B : Nat} (h : sOK σ B) (a : Int) : sOK (o_letter σ a).1 (B + 1) := by
  unfold o_letter; split
  · exact sOK_up h
  · next ha =>
    split
    · exact sOK_up h
    · next hl =>
      obtain ⟨h1, h2, h3⟩ := sOK_up h
      refine ⟨by show sl σ + 1 ≤ 22; omega, fun k => ?_, h3⟩
      show pu (sg σ) (sl σ) a.toNat k ≤ 126
      rw [pu_at]; split
      · omega
      · exact h2 k
theorem k_blank {σ : Sg} {B : Nat} (h : sOK σ B) : sOK (o_blank σ).1 (B + 1) := ⟨Nat.zero_le _, (sOK_up h).2⟩
theorem k_piece {σ : Sg} {B : Nat} (h : sOK σ B) : sOK (o_piece σ).1 (B + 1) := by
  unfold o_piece; split
  · obtain ⟨h1, h2, h3, h4, h5, h6, h7, h8, h9, h10⟩ := h
    refine ⟨Nat.zero_le _, h2, ⟨?_, ?_, fun b => ?_, fun b => ?_⟩, ⟨Nat.zero_le _, fun _ => Nat.zero_le _, fun _ => Nat.zero_le _, fun _ _ => rfl, Nat.zero_le _, fun _ => Nat.zero_le _, fun k hk => absurd hk (Nat.not_lt_zero k), Nat.zero_le _⟩, fun z => absurd (show false = true from z) (by decide), ?_, h7, h8, ⟨fun _ => Nat.zero_le _, fun _ => Nat.zero_le _, Nat.zero_le _⟩, fun z => absurd (show false = true from z) (by decide)⟩
    · show min 6 (sl σ / 3) ≤ 6; omega
    · show min 9 (sg σ (3 * min 6 (sl σ / 3)) - 48) ≤ 9; omega
    · show (max 0 (soc (sg σ (3 * b)))).toNat ≤ 3
      have := soc_rng (sg σ (3 * b)); omega
    · show min 4 (sg σ (3 * b + 1) - 48) ≤ 4; omega
    · show s1 σ + 1 ≤ B + 1; omega
  · exact sOK_up h
theorem k_player {σ : Sg} {B : Nat} (h : sOK σ B) (a b : Int) : sOK (o_player σ a b).1 (B + 1) := by
  unfold o_player; split
  · exact sOK_up h
  · next hab => split
                · exact sOK_up h
                · split
                  · exact sOK_up h
                  · next h4 =>
                    have hE := h.2.2.2.1
                    have hb := (sOK_up h).2.2.2.2.2.2.2.2.1
                    have h44 := hE.1
                    refine sOK_E (sOK_up h) ⟨?_, fun p => ?_, fun p => ?_, fun p hp => ?_, hE.2.2.2.2⟩ ⟨fun p => ?_, fun p => ?_, hb.2.2⟩
                    · show en (sE σ) + 1 ≤ 4; omega
                    · show pu (ek (sE σ)) (en (sE σ)) a.toNat p ≤ 4
                      rw [pu_at]; split
                      · omega
                      · exact hE.2.1 p
                    · show pu (et (sE σ)) (en (sE σ)) b.toNat p ≤ 9
                      rw [pu_at]; split
                      · omega
                      · exact hE.2.2.1 p
                    · have hp : en (sE σ) + 1 ≤ p := hp
                      show pu (et (sE σ)) (en (sE σ)) b.toNat p = 0
                      rw [pu_ne _ _ (by omega)]; exact hE.2.2.2.1 p (by omega)
                    · show pu (eo (sE σ)) (en (sE σ)) 0 p ≤ 4 * (B + 1)
                      rw [pu_at]; split
                      · omega
                      · exact hb.1 p
                    · show pu (ec (sE σ)) (en (sE σ)) 0 p ≤ B + 1
                      rw [pu_at]; split
                      · omega
                      · exact hb.2.1 p
theorem k_coffee {σ : Sg} {B : Nat} (h : sOK σ B) (a : Int) : sOK (o_coffee σ a).1 (B + 1) := by
  unfold o_coffee; split
  · next ha =>
    have hE := h.2.2.2.1
    have hb0 := h.2.2.2.2.2.2.2.2.1
    have hb := (sOK_up h).2.2.2.2.2.2.2.2.1
    have ht : tk (sr σ) (rf (st σ) a.toNat) := tk_rf (rho_tk hE) (show a.toNat < en (sE σ) by omega)
    refine sOK_E (sOK_up h) ⟨hE.1, hE.2.1, ht.1, ht.2, hE.2.2.2.2⟩ ⟨hb.1, fun p => ?_, hb.2.2⟩
    show pu (ec (sE σ)) a.toNat (ec (sE σ) a.toNat + 1) p ≤ B + 1
    have := hb0.2.1 a.toNat
    rw [pu_at]; split
    · omega
    · exact hb.2.1 p
  · exact sOK_up h
theorem k_tire {σ : Sg} {B : Nat} (h : sOK σ B) (a b : Int) : sOK (o_tire σ a b).1 (B + 1) := by
  unfold o_tire; split
  · next ha => split
               · next hb1 =>
                 have hE := h.2.2.2.1
                 have hb := (sOK_up h).2.2.2.2.2.2.2.2.1
                 have ht : tk (sr σ) (pu (st σ) a.toNat b.toNat) := tk_pu (rho_tk hE) (show a.toNat < en (sE σ) by omega) (by omega)
                 exact sOK_E (sOK_up h) ⟨hE.1, hE.2.1, ht.1, ht.2, hE.2.2.2.2⟩ hb
               · exact sOK_up h
  · exact sOK_up h
theorem k_play {σ : Sg} {B : Nat} (h : sOK σ B) : sOK (o_play σ).1 (B + 1) := by
  unfold o_play; split
  · next hp =>
    have hE := h.2.2.2.1
    have hρ : RuOK (sr σ) := sOK_ru h
    have hb0 := h.2.2.2.2.2.2.2.2.1
    have hb := (sOK_up h).2.2.2.2.2.2.2.2.1
    have ht : tk (sr σ) (be (sr σ) (ep (sE σ)) (st σ)) := tk_be _ _ _
    refine sOK_E (sOK_up h) ⟨hE.1, hE.2.1, ht.1, ht.2, hE.2.2.2.2.1, hE.2.2.2.2.2.1, hE.2.2.2.2.2.2.1, ?_⟩ ⟨fun p => ?_, hb.2.1, ?_⟩
    · show ep (sE σ) + 1 ≤ pb (sP σ); omega
    · show eo (sE σ) p + sh (sr σ) (ep (sE σ)) (st σ) p ≤ 4 * (B + 1)
      have a := hb0.1 p
      have b := (sh_facts (sr σ) (ep (sE σ)) (st σ) hρ).1 p
      omega
    · show es (sE σ) + lo (sr σ) (ep (sE σ)) (st σ) ≤ 4 * (B + 1)
      have a := hb0.2.2
      have b := lo_le (sr σ) (ep (sE σ)) (st σ) hρ
      have c := hρ.2.2.2.2.2 (ep (sE σ))
      omega
  · exact sOK_up h
theorem k_again {σ : Sg} {B : Nat} (h : sOK σ B) : sOK (o_again σ).1 (B + 1) := by
  unfold o_again; split
  · exact sOK_up h
  · have hE := h.2.2.2.1
    exact sOK_E (sOK_up h) ⟨hE.1, hE.2.1, hE.2.2.1, hE.2.2.2.1, hE.2.2.2.2.1, hE.2.2.2.2.2.1, hE.2.2.2.2.2.2.1, Nat.zero_le _⟩ (sOK_up h).2.2.2.2.2.2.2.2.1
theorem k_tell {σ : Sg} {B : Nat} (h : sOK σ B) (a b : Int) : sOK (o_tell σ a b).1 (B + 1) := by
  unfold o_tell; split
  · next ha => split
               · next hb1 => split
                             · exact sOK_up h
                             · next h6 =>
                               have hE := h.2.2.2.1
                               have h66 := hE.2.2.2.2.1
                               refine sOK_E (sOK_up h) ⟨hE.1, hE.2.1, hE.2.2.1, hE.2.2.2.1, ?_, fun k => ?_, fun k hk => ?_, hE.2.2.2.2.2.2.2⟩ (sOK_up h).2.2.2.2.2.2.2.2.1
                               · show eT (sE σ) + 1 ≤ 6; omega
                               · show pu (el (sE σ)) (eT (sE σ)) b.toNat k ≤ 4
                                 rw [pu_at]; split
                                 · omega
                                 · exact hE.2.2.2.2.2.1 k
                               · have hk : k < eT (sE σ) + 1 := hk
                                 show pu (eb (sE σ)) (eT (sE σ)) a.toNat k < pb (sP σ)
                                 rw [pu_at]; split
                                 · omega
                                 · exact hE.2.2.2.2.2.2.1 k (by omega)
               · exact sOK_up h
  · exact sOK_up h
theorem k_forget {σ : Sg} {B : Nat} (h : sOK σ B) : sOK (o_forget σ).1 (B + 1) := by
  have hE := h.2.2.2.1
  exact sOK_E (sOK_up h) ⟨hE.1, hE.2.1, hE.2.2.1, hE.2.2.2.1, Nat.zero_le _, hE.2.2.2.2.2.1, fun k hk => absurd hk (Nat.not_lt_zero k), hE.2.2.2.2.2.2.2⟩ (sOK_up h).2.2.2.2.2.2.2.2.1
theorem k_cups {σ : Sg} {B : Nat} (h : sOK σ B) (a : Int) : sOK (o_cups σ a).1 (B + 1) := by
  unfold o_cups; split
  · split
    · exact sOK_up h
    · next hc =>
      obtain ⟨h1, h2, h3, h4, h5, h6, h7, h8, h9⟩ := sOK_up h
      exact ⟨h1, h2, h3, h4, h5, h6, by show s2 σ + 1 ≤ 12; omega, h8, h9⟩
  · exact sOK_up h
theorem k_order {σ : Sg} {B : Nat} (h : sOK σ B) (a : Int) : sOK (o_order σ a).1 (B + 1) := by
  unfold o_order; split
  · split
    · exact sOK_up h
    · next hc =>
      obtain ⟨h1, h2, h3, h4, h5, h6, h7, h8, h9⟩ := sOK_up h
      exact ⟨h1, h2, h3, h4, h5, h6, h7, by show s3 σ + 1 ≤ 20; omega, h9⟩
  · exact sOK_up h
theorem k_image {σ : Sg} {B : Nat} (h : sOK σ B) : sOK (o_image σ).1 (B + 1) := by
  unfold o_image; split
  · exact sOK_up h
  · obtain ⟨h1, h2, h3, h4, h5, h6, h7, h8, h9, h10⟩ := sOK_up h
    exact ⟨h1, h2, h3, h4, fun _ => h4, h6, h7, h8, h9, fun _ => h9⟩
theorem k_restore {σ : Sg} {B : Nat} (h : sOK σ B) : sOK (o_restore σ).1 (B + 1) := by
  unfold o_restore; split
  · next hk => exact sOK_E (sOK_up h) (h.2.2.2.2.1 hk) ((sOK_up h).2.2.2.2.2.2.2.2.2 hk)
  · exact sOK_up h
/-- at the start -/
def sg0 : Sg := (0, fun _ => 0, (0, 0, fun _ => 0, fun _ => 0), ev0, false, ev0, 0, 0, 0)
theorem sOK_0 : sOK sg0 0 := by
  refine ⟨Nat.zero_le _, fun _ => Nat.zero_le _, ⟨Nat.zero_le _, Nat.zero_le _, fun _ => Nat.zero_le _, fun _ => Nat.zero_le _⟩, ⟨Nat.zero_le _, fun _ => Nat.zero_le _, fun _ => Nat.zero_le _, fun _ _ => rfl, Nat.zero_le _, fun _ => Nat.zero_le _, fun k hk => absurd hk (Nat.not_lt_zero k), Nat.zero_le _⟩, fun z => absurd (show false = true from z) (by decide), Nat.zero_le _, Nat.zero_le _, Nat.zero_le _, ⟨fun _ => Nat.zero_le _, fun _ => Nat.zero_le _, Nat.zero_le _⟩, fun z => absurd (show false = true from z) (by decide)⟩
