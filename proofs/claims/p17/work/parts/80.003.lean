theorem mid_opens {m pool : Nat → Int} {B : Int} (h : Mid m pool B) {C p : Nat} {t : Int} (hC : m 0 = (C : Int)) (hC2 : C ≤ 59) (hp : p < C) (hp0 : m (18 + 4 * p) = 0) (ht : InR t) (hB : B ≤ 2000000000) : Mid (opensM m C p t) pool (B + 1) := by
  obtain ⟨o0, o1, o2, o3, o4, o6, e⟩ := opensM_at (m := m) (C := C) (p := (p : Int)) (t := t)
  obtain ⟨⟨⟨hM, k0, k1, k2, k3, k4, k5, k7⟩, g2, g3, g4, g5, g6⟩, s, nc, ns⟩ := h
  have r6 : InR (m 6 + 1) := ⟨by omega, by omega⟩
  have cc : cnt (clsB (opensM m C p t)) (m 1).toNat = cnt (clsB m) (m 1).toNat := cnt_congr _ (fun q hq => by unfold clsB; rw [e _ (by omega) (by omega) (by omega)])
  have hin : ∀ q, InR (opensM m C p t q) := by
    unfold opensM
    exact updM_in (updM_in (updM_in (updM_in (updM_in (updM_in hM ⟨by omega, by omega⟩) (by decide)) ⟨by omega, by omega⟩) r6) r6) ht
  refine ⟨⟨⟨hin, ?_⟩, ?_⟩, ?_, ?_, ?_⟩
  · rw [o0, e 1 (by omega) (by omega) (by omega), e 2 (by omega) (by omega) (by omega), e 3 (by omega) (by omega) (by omega), e 4 (by omega) (by omega) (by omega), e 5 (by omega) (by omega) (by omega)]
    exact ⟨⟨by omega, by omega⟩, k1, k2, k3, k4, k5, fun u hu => by rw [e _ (by omega) (by omega) (by omega)]; exact k7 u hu⟩
  · rw [o0, e 1 (by omega) (by omega) (by omega), e 2 (by omega) (by omega) (by omega), e 4 (by omega) (by omega) (by omega), e 5 (by omega) (by omega) (by omega), e 8 (by omega) (by omega) (by omega), o6, cc]
    refine ⟨⟨by omega, g2.2⟩, fun u hu => ?_, g4, ⟨by omega, by omega⟩, fun u j hu hj => by rw [e _ (by omega) (by omega) (by omega)]; exact g6 u j hu hj⟩
    have z := g3 u hu
    unfold thOk at z ⊢
    rw [e (258 + 14 * u) (by omega) (by omega) (by omega), e (259 + 14 * u) (by omega) (by omega) (by omega), e (260 + 14 * u) (by omega) (by omega) (by omega), e (261 + 14 * u) (by omega) (by omega) (by omega), e (262 + 14 * u) (by omega) (by omega) (by omega), e (263 + 14 * u) (by omega) (by omega) (by omega), o0, o6, e 8 (by omega) (by omega) (by omega)]
    exact ⟨z.1, ⟨z.2.1.1, by omega⟩, ⟨z.2.2.1.1, z.2.2.1.2.1, by omega⟩, z.2.2.2⟩
  · obtain ⟨s1, s2, s3⟩ := s
    refine ⟨by rw [e 19 (by omega) (by omega) (by omega)]; exact s1, by rw [e 18 (by omega) (by omega) (by omega)]; exact s2, fun c hc => ?_⟩
    rw [o0] at hc
    by_cases q : c = C
    · subst q
      rw [o1, o2, o3, o6]
      refine ⟨by decide, fun _ => ⟨⟨by omega, by omega⟩, ⟨by omega, Int.le_refl _⟩, fun _ => ?_⟩⟩
      rw [show ((p : Int)).toNat = p by omega, e _ (by omega) (by omega) (by omega), hp0]; decide
    · obtain ⟨a, b⟩ := s3 c (by omega)
      rw [e (18 + 4 * c) (by omega) (by omega) (by omega), e (19 + 4 * c) (by omega) (by omega) (by omega), e (20 + 4 * c) (by omega) (by omega) (by omega), o6]
      refine ⟨a, fun h1 => ?_⟩
      obtain ⟨b1, b2, b3⟩ := b h1
      rw [e (18 + 4 * (m (19 + 4 * c)).toNat) (by omega) (by omega) (by omega)]
      exact ⟨b1, ⟨b2.1, by omega⟩, b3⟩
  · intro u hu
    rw [e 1 (by omega) (by omega) (by omega)] at hu
    rw [e _ (by omega) (by omega) (by omega)]; exact nc u hu
  · intro c hc
    rw [o0] at hc
    by_cases q : c = C
    · subst q; rw [o1]; decide
    · rw [e _ (by omega) (by omega) (by omega)]; exact ns c (by omega)
