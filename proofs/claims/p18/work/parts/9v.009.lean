section EXG
variable {pool : Nat → Int} {sink : Int} {cl : (Nat → Int) → Nat → (Nat → Int) → Prop} {sh : (Nat → Int) → Int → (Nat → Int) → Prop} {n : Nat}
theorem turnFin_exg (hPo : poolOk pool) (hCX : CXG cl pool 91) (hSX : SXG sh pool 61) {m : Nat → Int} {B : Int} {t o p E : Nat} (ht : (t : Int) < m 3) (h : Mid m pool B) (hT : TkM m pool t) (hB : B ≤ 1800000000) (hn : m (1619 + 72 * t) = (o : Int) + 1) (hE : m (1617 + 72 * t) = E) (hp : p ≤ 12343) (hr : p < E → ∃ P : Nat, m (1616 + 72 * t) = P ∧ P ≤ p ∧ m (1615 + 72 * t) ≤ (p : Int) - P ∧ ∃ k, stsT pool k o p E) :
    ∃ m', turnFinR (sh) t E m p m' ∧ Aft m m' pool B := by
  obtain ⟨hM, k0, k1, k2, k3, k4, k5, k7⟩ := id h.1.1
  have e : ∀ q, ¬ q = 1611 + 72 * t → updI m (1611 + 72 * t) p q = m q := fun q a => updI_n a
  have hm : Mid (updI m (1611 + 72 * t) p) pool B := h.out ⟨by omega, by omega⟩ (by omega)
  have hb : tkB (updI m (1611 + 72 * t) p) pool t := by
    obtain ⟨a1, a2, a3, a4, a5, a6, ⟨n, a7, a8⟩, a9, a10⟩ := (hT.2 t ht).1
    unfold tkB
    rw [updI_s, e 8 (by omega), e _ (by omega), e _ (by omega), e _ (by omega), e _ (by omega), e _ (by omega), e _ (by omega), e _ (by omega), e _ (by omega), e _ (by omega), e _ (by omega), e _ (by omega), e _ (by omega)]
    refine ⟨a1, a2, a3, a4, a5, a6, ⟨n, a7, a8.1, fun k hk => ?_, fun k hk => ?_⟩, ⟨p, rfl, hp⟩, a10⟩
    · rw [e _ (by omega), e 0 (by omega)]; exact a8.2.1 k hk
    · have z1 := a8.2.1 (k + 1) hk
      rw [e (1620 + 72 * t + (k + 1)) (by omega), e (1620 + 72 * t + k) (by omega), e _ (by omega)]; exact a8.2.2 k hk
  have hT2 : TkM (updI m (1611 + 72 * t) p) pool t := hT.step (e 3 (by omega)) (e 0 (by omega)) k0.2 k3.2 (by rw [e 7 (by omega)]; exact Int.le_refl _) (by rw [e 8 (by omega)]; exact Int.le_refl _) (fun c _ hc => e _ (by omega)) (fun u hu hu9 => ⟨fun q a b c => e q (by omega), Or.inl (e _ (by omega))⟩) (fun _ => hb)
  by_cases c : p < E
  · refine ⟨_, ⟨h.1.1, hp, Or.inl ⟨c, rfl⟩⟩, hm, ⟨hT2.1, fun u hu => ⟨(hT2.2 u hu).1, fun _ => ?_⟩⟩, e 3 (by omega), e 7 (by omega), ⟨e 8 (by omega), by rw [e 1 (by omega)]; exact Int.le_refl _⟩⟩
    by_cases q : u = t
    · subst q
      intro _
      obtain ⟨P, r1, r2, r3, r4⟩ := hr c
      exact ⟨o, P, E, p, by rw [e _ (by omega)]; exact hn, by rw [e _ (by omega)]; exact r1, by rw [e _ (by omega)]; exact hE, updI_s, r2, by rw [e _ (by omega)]; exact r3, r4⟩
    · exact (hT2.2 u hu).2 q
  · obtain ⟨m', x1, x2, x3, x4⟩ := isOver_exg hPo hCX hSX (st := if cnt (faultB m t) (m 4).toNat = 0 then 1 else 2) (by rw [e 3 (by omega)]; exact ht) hm hT2 (by omega) (by split <;> decide)
    refine ⟨m', ⟨h.1.1, hp, Or.inr ⟨by omega, x1⟩⟩, x2, x3, ?_, ?_, ?_⟩
    · rw [x4.1 3 (Or.inr (Or.inl rfl)), updI_n (by omega), e 3 (by omega)]
    · rw [x4.1 7 (Or.inr (Or.inr (Or.inl rfl))), updI_n (by omega), e 7 (by omega)]
    · have y := x4.2.2.1.1
      rw [updI_n (by omega), e 1 (by omega)] at y
      rw [x4.1 8 (Or.inr (Or.inr (Or.inr (Or.inl rfl)))), updI_n (by omega), e 8 (by omega)]; exact ⟨rfl, y⟩
end EXG
