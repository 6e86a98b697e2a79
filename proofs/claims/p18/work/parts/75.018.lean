section mg_77
theorem inv_cng {m pool : Nat → Int} {B : Int} (h : Inv m pool B) {t : Nat} (ht : (t : Int) < m 1) (h0 : m (258 + 14 * t) = 0) : Inv (updI m (258 + 14 * t) 1) pool B ∧ cnt (cngB (updI m (258 + 14 * t) 1)) (m 1).toNat = cnt (cngB m) (m 1).toNat + 1 := by
  obtain ⟨⟨hM, k0, k1, k2, k3, k4, k5, k7⟩, g2, g3, g4, g5, g6⟩ := h
  have e : ∀ q, ¬ q = 258 + 14 * t → updI m (258 + 14 * t) 1 q = m q := fun q a => updI_n a
  have c : cnt (clsB (updI m (258 + 14 * t) 1)) (m 1).toNat = cnt (clsB m) (m 1).toNat := cnt_congr _ (fun q hq => by
    unfold clsB
    by_cases g : q = t
    · subst g; rw [updI_s, h0]; decide
    · rw [e _ (by omega)])
  have c2 := cnt_upd (p := cngB m) (p' := cngB (updI m (258 + 14 * t) 1)) (t := t) (decide_eq_false (by rw [h0]; decide)) (decide_eq_true updI_s) (M := 90) (fun q _ hq => by unfold cngB; rw [e _ (by omega)]) (m 1).toNat (by omega)
  rw [if_pos (by omega)] at c2
  refine ⟨⟨⟨updM_in hM (by decide), ?_⟩, ?_⟩, c2⟩
  · rw [e 0 (by omega), e 1 (by omega), e 2 (by omega), e 3 (by omega), e 4 (by omega), e 5 (by omega)]
    exact ⟨k0, k1, k2, k3, k4, k5, fun u hu => by rw [e _ (by omega)]; exact k7 u hu⟩
  · rw [e 0 (by omega), e 1 (by omega), e 2 (by omega), e 4 (by omega), e 5 (by omega), e 6 (by omega), e 8 (by omega), c]
    refine ⟨g2, fun u hu => ?_, g4, g5, fun u j hu hj => by rw [e _ (by omega)]; exact g6 u j hu hj⟩
    have z := g3 u hu
    unfold thOk at z ⊢
    rw [e (259 + 14 * u) (by omega), e (260 + 14 * u) (by omega), e 6 (by omega), e (261 + 14 * u) (by omega), e (262 + 14 * u) (by omega), e (263 + 14 * u) (by omega), e 0 (by omega), e 8 (by omega)]
    refine ⟨?_, z.2⟩
    by_cases q : u = t
    · subst q; rw [updI_s]; exact ⟨by decide, by decide⟩
    · rw [e _ (by omega)]; exact z.1
end mg_77
