section mg_9y
section CHG2
variable {x : Int} {m pool c : Nat → Int} {S : Nat → Option mO} {C : Nat → Nat → Int} {nm : Nat → Int64} {g : Nat → Option Nat}
/-- a thing is CLOSED -/
theorem CR_closed (h : CRx 1 m pool S c C nm g) (hok : mOk m) (h2 : m 2 ≤ 89) {t : Nat} (ht : (t : Int) < m 1) (h1 : m (258 + 14 * t) = 1) {L Z : Nat} (hL : c 9 = (L : Int)) (hZ : c 10 = (Z : Int)) : CRx 0 (closedM m t) pool S (gcC c t L (cnt (notB (t : Int) (C 2)) Z)) (gcD C t L Z) nm g := by
  obtain ⟨n, T, A, K, Lg, ⟨Z', e⟩, ⟨F, f⟩, G, R⟩ := h
  have k0 := hok.2.1
  have k1 := hok.2.2.1
  have k2 := hok.2.2.2.1
  have k3 := hok.2.2.2.2.1
  have hZ' : Z' = Z := by have := e.1; omega
  subst hZ'
  have n9 := n.2.2.2.2
  have hmL : m 2 = (L : Int) := by omega
  obtain ⟨u2, ust, um⟩ := closedM_at (m := m) (t := t) ⟨k2.1, h2⟩ (by omega)
  have upl : closedM m t (264 + 14 * t) = m 2 := by
    unfold closedM
    rw [updI_n (by omega), updI_n (by omega), updI_s]
  have ulog : closedM m t (1518 + L) = t := by
    unfold closedM
    rw [updI_n (by omega), show (1518 + m 2).toNat = 1518 + L by omega, updI_s]
  have ulo : ∀ q, 1518 ≤ q → q < 1608 → ¬ q = 1518 + L → closedM m t q = m q := fun q a b d => by
    unfold closedM
    rw [updI_n (by omega), updI_n (by omega), updI_n (by omega), updI_n (by omega)]
  obtain ⟨d1, d2, d3⟩ := ordE_d (crE_o.mp e).2.2 (e0 := (t : Int)) ((nodP_t ht k1.2).mpr (by rw [h1]; decide))
  obtain ⟨k', hk'⟩ : ∃ k', cnt (notB (t : Int) (C 2)) Z' = k' := ⟨_, rfl⟩
  rw [hk'] at d1 ⊢
  have uc : ∀ q, ¬ q = 32 + 3 * t → ¬ q = 34 + 3 * t → ¬ q = 9 → ¬ q = 10 → gcC c t L k' q = c q := fun q a b d e => by
    unfold gcC
    rw [updI_n (by omega), updI_n (by omega), updI_n (by omega), updI_n (by omega)]
  have cst : gcC c t L k' (32 + 3 * t) = 1 := by unfold gcC; rw [updI_n (by omega), updI_n (by omega), updI_n (by omega), updI_s]
  have cpl : gcC c t L k' (34 + 3 * t) = L := by unfold gcC; rw [updI_n (by omega), updI_n (by omega), updI_s]
  have c9' : gcC c t L k' 9 = (L : Int) + 1 := by unfold gcC; rw [updI_n (by omega), updI_s]
  have c10' : gcC c t L k' 10 = k' := by unfold gcC; rw [updI_s]
  have D2 : gcD C t L Z' 2 = drA (t : Int) (C 2) Z' := by unfold gcD; rw [updC_s]
  have D1 : gcD C t L Z' 1 = updI (C 1) L (t : Int) := by unfold gcD; rw [updC_n (by decide), updC_s]
  have Dn : ∀ k, ¬ k = 1 → ¬ k = 2 → gcD C t L Z' k = C k := fun k a b => by unfold gcD; rw [updC_n b, updC_n a]
  have fb := f.2.1
  have kr := cnt_r (notB (t : Int) (C 2)) Z'
  have er := e.2.1
  refine ⟨?_, ?_, ?_, ?_, ?_, ⟨Z' - 1, ?_⟩, ⟨F, ?_⟩, ?_, ?_, ?_⟩
  · unfold crN
    rw [um 0 (by omega) (by omega) (by omega) (by omega), um 1 (by omega) (by omega) (by omega) (by omega), um 3 (by omega) (by omega) (by omega) (by omega), u2, uc 0 (by omega) (by omega) (by omega) (by omega), uc 1 (by omega) (by omega) (by omega) (by omega), uc 2 (by omega) (by omega) (by omega) (by omega), uc 8 (by omega) (by omega) (by omega) (by omega), c9']
    exact ⟨n.1, n.2.1, n.2.2.1, n.2.2.2.1, by omega⟩
  · intro u hu
    rw [um 1 (by omega) (by omega) (by omega) (by omega)] at hu
    obtain ⟨t1, t2, t3, t4, t5⟩ := T u hu
    rw [uc (33 + 3 * u) (by omega) (by omega) (by omega) (by omega), um (259 + 14 * u) (by omega) (by omega) (by omega) (by omega)]
    have q4 : ∀ q, 261 + 14 * u ≤ q → q < 272 + 14 * u → ¬ q = 264 + 14 * u → closedM m t q = m q := fun q a b d => um q (by omega) (by omega) (by omega) (by omega)
    refine ⟨?_, t2, ?_, t4.trans (nmR_c (q4 _ (by omega) (by omega) (by omega)) t5.1.2 (fun j hj => q4 _ (by omega) (by omega) (by omega))).symm, nmOk_c (q4 _ (by omega) (by omega) (by omega)) (fun j hj => q4 _ (by omega) (by omega) (by omega)) t5⟩
    · by_cases w : u = t
      · subst w; rw [cst, ust]; decide
      · rw [uc _ (by omega) (by omega) (by omega) (by omega), um (258 + 14 * u) (by omega) (by omega) (by omega) (by omega)]; exact t1
    · by_cases w : u = t
      · subst w; rw [cpl, upl]; exact hmL.symm
      · rw [uc _ (by omega) (by omega) (by omega) (by omega), um (264 + 14 * u) (by omega) (by omega) (by omega) (by omega)]; exact t3
  · exact crS_c A k0.2 (um 0 (by omega) (by omega) (by omega) (by omega)) (fun q a b => um q (by omega) (by omega) (by omega) (by omega)) (fun q a b => uc q (by omega) (by omega) (by omega) (by omega))
  · exact crK_c K (um 3 (by omega) (by omega) (by omega) (by omega)) (fun q a b => um q (by omega) (by omega) (by omega) (by omega)) (fun q a => uc q (by omega) (by omega) (by omega) (by omega)) k3.2
  · refine ⟨fun j hj => ?_, fun j hj => ?_⟩
    · rw [Dn 0 (by decide) (by decide), um _ (by omega) (by omega) (by omega) (by omega)]; exact Lg.1 j hj
    · rw [u2] at hj
      rw [D1]
      by_cases w : j = L
      · subst w; rw [updI_s, ulog]
      · rw [updI_n w, ulo _ (by omega) (by omega) (by omega)]; exact Lg.2 j (by omega)
  · rw [D2]
    refine crE_o.mpr ⟨by rw [c10']; omega, by rw [um 0 (by omega) (by omega) (by omega) (by omega), um 1 (by omega) (by omega) (by omega) (by omega)]; omega, ?_⟩
    refine ordE_c d3 (fun e' => ?_) (fun e' he => ?_) (by rw [um 6 (by omega) (by omega) (by omega) (by omega)]; exact Int.le_refl _)
    · unfold nodP
      rw [um 0 (by omega) (by omega) (by omega) (by omega), um 1 (by omega) (by omega) (by omega) (by omega)]
      constructor
      · rintro (⟨u, a, b, d⟩ | ⟨u, a, d1, b, d⟩)
        · have w : ¬ u = t := fun w => by subst w; exact d ust
          rw [um _ (by omega) (by omega) (by omega) (by omega)] at d
          exact ⟨Or.inl ⟨u, a, b, d⟩, by omega⟩
        · rw [um _ (by omega) (by omega) (by omega) (by omega)] at d
          exact ⟨Or.inr ⟨u, a, d1, b, d⟩, by omega⟩
      · rintro ⟨⟨u, a, b, d⟩ | ⟨u, a, d1, b, d⟩, w⟩
        · exact Or.inl ⟨u, a, b, by rw [um _ (by omega) (by omega) (by omega) (by omega)]; exact d⟩
        · exact Or.inr ⟨u, a, d1, b, by rw [um _ (by omega) (by omega) (by omega) (by omega)]; exact d⟩
    · exact stampI_c k1.2 (fun u hu => um _ (by omega) (by omega) (by omega) (by omega)) (fun u hu hb => um _ (by omega) (by omega) (by omega) (by omega)) he.1
  · obtain ⟨f1, f2, f3, f4, f5, f6, f7⟩ := f
    unfold crF
    rw [uc 11 (by omega) (by omega) (by omega) (by omega), uc 12 (by omega) (by omega) (by omega) (by omega), uc 13 (by omega) (by omega) (by omega) (by omega), uc 4 (by omega) (by omega) (by omega) (by omega), u2, um 4 (by omega) (by omega) (by omega) (by omega), um 5 (by omega) (by omega) (by omega) (by omega), Dn 3 (by decide) (by decide), Dn 4 (by decide) (by decide), Dn 5 (by decide) (by decide)]
    refine ⟨f1, by omega, f3, f4, fun j a b => ?_, f6, fun j a b d => ?_⟩
    · have r := cnt_r (faB (C 5)) j
      rw [um _ (by omega) (by omega) (by omega) (by omega), um _ (by omega) (by omega) (by omega) (by omega), um _ (by omega) (by omega) (by omega) (by omega)]
      exact f5 j a b
    · have r := cnt_r (gbB (c 4).toNat (C 5) (-1)) j
      rw [um _ (by omega) (by omega) (by omega) (by omega), um _ (by omega) (by omega) (by omega) (by omega)]
      exact f7 j a b d
  · exact crG_c G k1.2 (um 1 (by omega) (by omega) (by omega) (by omega)) (fun u hu => ⟨um _ (by omega) (by omega) (by omega) (by omega), um _ (by omega) (by omega) (by omega) (by omega)⟩) (fun _ _ => rfl)
  · unfold gcC
    exact updI_r (updI_r (updI_r (updI_r R.1 (by decide)) ⟨by omega, by omega⟩) ⟨by omega, by omega⟩) ⟨by omega, by omega⟩
  · unfold gcD
    exact updC_r (updC_r R.2 (updI_r (R.2 1) ⟨by omega, by omega⟩)) (drA_r (R.2 2) Z')
end CHG2
end mg_9y
