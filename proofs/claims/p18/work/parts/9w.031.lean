section mg_a2
section EXI
variable {pool : Nat → Int} {sink : Int} {cl cl' : (Nat → Int) → Nat → (Nat → Int) → Prop} {sh sh' : (Nat → Int) → Int → (Nat → Int) → Prop} {n : Nat}
theorem turn_exI (hPo : poolOk pool) (hCX : CXG cl pool 91) (hSX : SXG sh pool 61) {m : Nat → Int} {B : Int} {t : Nat} (ht : (t : Int) < m 3) (h : Mid m pool B) (hT : TkM m pool 99) (hB : B ≤ 1700000000) (h7 : m 7 ≤ 1000000000) (hrd : m (1610 + 72 * t) = 0) :
    ∃ m', turnI pool cl sh m t m' ∧ Mid m' pool (B + 120) ∧ TkM m' pool 99 ∧ m' 3 = m 3 ∧ m' 7 = m 7 + 1 ∧ (m' 8 = m 8 ∧ m 1 ≤ m' 1) := by
  obtain ⟨hM, k0, k1, k2, k3, k4, k5, k7⟩ := id h.1.1
  obtain ⟨a1, a2, a3, a4, a5, a6, ⟨n, a7, a8⟩, ⟨p0, a9, a9b⟩, P0, E0, a10⟩ := id (hT.2 t ht).1
  have h8 := h.1.2.1.2.2
  obtain ⟨o, P, E, p, r1, r2, r3, r4, r5, r6, r7⟩ := (hT.2 t ht).2 (by omega) hrd
  have t7 := hT.1
  have e : ∀ q, ¬ q = 7 → ¬ q = 1612 + 72 * t → ¬ q = 1613 + 72 * t → turnM m t q = m q := fun q a b c => by unfold turnM; rw [updI_n c, updI_n b, updI_n a]
  have e7 : turnM m t 7 = m 7 + 1 := by unfold turnM; rw [updI_n (by omega), updI_n (by omega), updI_s]
  have e2 : turnM m t (1612 + 72 * t) = m (1612 + 72 * t) + 1 := by unfold turnM; rw [updI_n (by omega), updI_s]
  have e3 : turnM m t (1613 + 72 * t) = m 7 + 1 := by unfold turnM; rw [updI_s]
  have hm : Mid (turnM m t) pool B := ((h.out (k := 7) (v := m 7 + 1) ⟨by omega, by omega⟩ (Or.inl rfl)).out (k := 1612 + 72 * t) (v := m (1612 + 72 * t) + 1) ⟨by omega, by omega⟩ (by omega)).out (k := 1613 + 72 * t) (v := m 7 + 1) ⟨by omega, by omega⟩ (by omega)
  have hT2 : TkM (turnM m t) pool t := (hT.weak k3.2 : TkM m pool t).step (e 3 (by omega) (by omega) (by omega)) (e 0 (by omega) (by omega) (by omega)) k0.2 k3.2 (by omega) (by rw [e 8 (by omega) (by omega) (by omega)]; exact Int.le_refl _) (fun c _ hc => e _ (by omega) (by omega) (by omega)) (fun u hu hu9 => ⟨fun q a b c => e q (by omega) (by omega) (by omega), Or.inl (e _ (by omega) (by omega) (by omega))⟩) (fun _ => by
    unfold tkB
    rw [e7, e2, e3, e 8 (by omega) (by omega) (by omega), e _ (by omega) (by omega) (by omega), e _ (by omega) (by omega) (by omega), e _ (by omega) (by omega) (by omega), e _ (by omega) (by omega) (by omega), e _ (by omega) (by omega) (by omega), e _ (by omega) (by omega) (by omega), e _ (by omega) (by omega) (by omega), e _ (by omega) (by omega) (by omega), e _ (by omega) (by omega) (by omega), e _ (by omega) (by omega) (by omega)]
    refine ⟨a1, a2, a3, ⟨⟨by omega, by omega⟩, ⟨by omega, Int.le_refl _⟩⟩, a5, a6, ⟨n, a7, a8.1, fun k hk => ?_, fun k hk => ?_⟩, ⟨p0, a9, a9b⟩, P0, E0, a10⟩
    · rw [e _ (by omega) (by omega) (by omega), e 0 (by omega) (by omega) (by omega)]; exact a8.2.1 k hk
    · have z1 := a8.2.1 (k + 1) hk
      rw [e (1620 + 72 * t + (k + 1)) (by omega) (by omega) (by omega), e (1620 + 72 * t + k) (by omega) (by omega) (by omega), e _ (by omega) (by omega) (by omega)]; exact a8.2.2 k hk)
  have hx := r7
  obtain ⟨kk, hx⟩ := hx
  have hlx := stsT_lt hx
  by_cases c : fineV (turnM m t) t = true
  · obtain ⟨m', x1, x2⟩ := turnLoop_exI hPo hCX hSX (t := t) (P := P) (E := E) (by omega) kk (turnM m t) B o p (by rw [e 3 (by omega) (by omega) (by omega)]; exact ht) (by rw [e 8 (by omega) (by omega) (by omega)]; omega) hm hT2 (by omega) (by rw [e _ (by omega) (by omega) (by omega)]; exact r1) (by rw [e _ (by omega) (by omega) (by omega)]; exact r2) (by rw [e _ (by omega) (by omega) (by omega)]; exact r3) r5 (by rw [e _ (by omega) (by omega) (by omega)]; exact r6) hx
    refine ⟨m', ⟨by omega, hm.1.1, ⟨n, a8.1.2, a7⟩, Or.inr ⟨c, p, E, kk, r3, r4, by omega, by omega, x1⟩⟩, x2.1.up (by omega), x2.2.1, ?_, ?_, ?_⟩
    · rw [x2.2.2.1, e 3 (by omega) (by omega) (by omega)]
    · rw [x2.2.2.2.1, e7]
    · have y := x2.2.2.2.2
      rw [e 8 (by omega) (by omega) (by omega), e 1 (by omega) (by omega) (by omega)] at y; exact y
  · obtain ⟨m', x1, x2, x3, x4⟩ := isOver_exg hPo hCX hSX (st := 3) (by rw [e 3 (by omega) (by omega) (by omega)]; exact ht) hm hT2 (by omega) (by decide)
    refine ⟨m', ⟨by omega, hm.1.1, ⟨n, a8.1.2, a7⟩, Or.inl ⟨by simpa using c, x1⟩⟩, x2.up (by omega), x3, ?_, ?_, ?_⟩
    · rw [x4.1 3 (Or.inr (Or.inl rfl)), updI_n (by omega), e 3 (by omega) (by omega) (by omega)]
    · rw [x4.1 7 (Or.inr (Or.inr (Or.inl rfl))), updI_n (by omega), e7]
    · have y := x4.2.2.1.1
      rw [updI_n (by omega), e 1 (by omega) (by omega) (by omega)] at y
      rw [x4.1 8 (Or.inr (Or.inr (Or.inr (Or.inl rfl)))), updI_n (by omega), e 8 (by omega) (by omega) (by omega)]; exact ⟨rfl, y⟩
end EXI
end mg_a2
