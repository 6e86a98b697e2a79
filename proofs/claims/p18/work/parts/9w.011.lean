section mg_9y
section CHG2
variable {x : Int} {m pool c : Nat → Int} {S : Nat → Option mO} {C : Nat → Nat → Int} {nm : Nat → Int64} {g : Nat → Option Nat}
/-- a fault is gathered -/
theorem CR_gath (h : CRx 0 m pool S c C nm g) (hok : mOk m) (h2 : m 2 ≤ 89) {t : Nat} (ht : t ≤ 89) {b v : Int} (hb : -1 ≤ b ∧ b ≤ 9) (hv : InR v) {F : Nat} (hF : c 11 = (F : Int)) : CRx 1 (gathersM m b v t) pool S (gaC c F) (gaD C F v (t : Int) b) nm g := by
  obtain ⟨n, T, A, K, L, ⟨Z, e⟩, ⟨F', f⟩, G, R⟩ := h
  have k0 := hok.2.1
  have k1 := hok.2.2.1
  have k2 := hok.2.2.2.1
  have k3 := hok.2.2.2.2.1
  have hFF : F' = F := by have := f.1.1; omega
  subst hFF
  obtain ⟨f1, f2, f3, f4, f5, f6, f7⟩ := f
  have rA := cnt_r (faB (C 5)) F'
  have rB := cnt_r (gbB (c 4).toNat (C 5) (-1)) F'
  have um : ∀ q, ¬ q = 4 → ¬ q = 5 → q < 2328 → gathersM m b v t q = m q := fun q a d y => by
    unfold gathersM
    split
    · rw [updI_n (by omega), updI_n (by omega), updI_n (by omega)]
    · rw [updI_n (by omega), updI_n (by omega), updI_n (by omega), updI_n (by omega)]
  have uc : ∀ q, ¬ q = 11 → ¬ q = 12 → ¬ q = 13 → gaC c F' q = c q := fun q a d y => by
    unfold gaC; rw [updI_n (by omega), updI_n (by omega), updI_n (by omega)]
  have c11 : gaC c F' 11 = (F' : Int) + 1 := by unfold gaC; rw [updI_n (by omega), updI_n (by omega), updI_s]
  have c12 : gaC c F' 12 = (F' : Int) + 1 := by unfold gaC; rw [updI_n (by omega), updI_s]
  have c13 : gaC c F' 13 = (F' : Int) + 1 := by unfold gaC; rw [updI_s]
  have D3 : gaD C F' v (t : Int) b 3 = updI (C 3) F' v := by unfold gaD; rw [updC_n (by decide), updC_n (by decide), updC_s]
  have D4 : gaD C F' v (t : Int) b 4 = updI (C 4) F' (t : Int) := by unfold gaD; rw [updC_n (by decide), updC_s]
  have D5 : gaD C F' v (t : Int) b 5 = updI (C 5) F' b := by unfold gaD; rw [updC_s]
  have Dn : ∀ k, k < 3 → gaD C F' v (t : Int) b k = C k := fun k a => by unfold gaD; rw [updC_n (by omega), updC_n (by omega), updC_n (by omega)]
  refine ⟨?_, ?_, ?_, ?_, ?_, ⟨Z, ?_⟩, ⟨F' + 1, ?_⟩, ?_, ?_, ?_⟩
  · unfold crN
    rw [um 0 (by omega) (by omega) (by omega), um 1 (by omega) (by omega) (by omega), um 2 (by omega) (by omega) (by omega), um 3 (by omega) (by omega) (by omega), uc 0 (by omega) (by omega) (by omega), uc 1 (by omega) (by omega) (by omega), uc 2 (by omega) (by omega) (by omega), uc 8 (by omega) (by omega) (by omega), uc 9 (by omega) (by omega) (by omega)]
    exact n
  · exact crT_c T k1.2 (um 1 (by omega) (by omega) (by omega)) (fun q w y => um q (by omega) (by omega) (by omega)) (fun q w y => uc q (by omega) (by omega) (by omega)) rfl
  · exact crS_c A k0.2 (um 0 (by omega) (by omega) (by omega)) (fun q w y => um q (by omega) (by omega) (by omega)) (fun q w y => uc q (by omega) (by omega) (by omega))
  · exact crK_c K (um 3 (by omega) (by omega) (by omega)) (fun q w y => um q (by omega) (by omega) (by omega)) (fun q w => uc q (by omega) (by omega) (by omega)) k3.2
  · exact crL_c L k2.2 (um 2 (by omega) (by omega) (by omega)) (fun q w y => um q (by omega) (by omega) (by omega)) (fun q w y => um q (by omega) (by omega) (by omega)) (Dn 0 (by decide)) (Dn 1 (by decide))
  · rw [Dn 2 (by decide)]
    exact crE_c e k1.2 (uc 10 (by omega) (by omega) (by omega)) (um 0 (by omega) (by omega) (by omega)) (um 1 (by omega) (by omega) (by omega)) (um 6 (by omega) (by omega) (by omega)) (fun u hu => by rw [um _ (by omega) (by omega) (by omega), um _ (by omega) (by omega) (by omega)]; exact ⟨Iff.rfl, rfl⟩) (fun u hu hb => by rw [um _ (by omega) (by omega) (by omega), um _ (by omega) (by omega) (by omega)]; exact ⟨Iff.rfl, rfl⟩)
  · have fa : ∀ j, j ≤ F' → cnt (faB (updI (C 5) F' b)) j = cnt (faB (C 5)) j := fun j hj => cnt_congr j (fun q hq => by unfold faB; rw [updI_n (by omega)])
    have gb : ∀ j, j ≤ F' → cnt (gbB (c 4).toNat (updI (C 5) F' b) (-1)) j = cnt (gbB (c 4).toNat (C 5) (-1)) j := fun j hj => cnt_congr j (fun q hq => by unfold gbB; rw [updI_n (by omega)])
    unfold crF
    rw [c11, c12, c13, uc 4 (by omega) (by omega) (by omega), um 2 (by omega) (by omega) (by omega), D3, D4, D5]
    by_cases hb0 : b < 0
    · have hb1 : b = -1 := by omega
      subst hb1
      have e4 : gathersM m (-1) v t 4 = m 4 := by unfold gathersM; rw [if_pos (by decide), updI_n (by omega), updI_n (by omega), updI_n (by omega)]
      have e5 : gathersM m (-1) v t 5 = m 5 + 1 := by unfold gathersM; rw [if_pos (by decide), updI_s]
      have eA : gathersM m (-1) v t (2688 + 2 * m 5).toNat = v := by unfold gathersM; rw [if_pos (by decide), updI_n (by omega), updI_n (by omega), updI_s]
      have eB : gathersM m (-1) v t (2689 + 2 * m 5).toNat = t := by unfold gathersM; rw [if_pos (by decide), updI_n (by omega), updI_s]
      have eN : ∀ q, 2328 ≤ q → ¬ q = (2688 + 2 * m 5).toNat → ¬ q = (2689 + 2 * m 5).toNat → gathersM m (-1) v t q = m q := fun q a y z => by
        unfold gathersM; rw [if_pos (by decide), updI_n (by omega), updI_n z, updI_n y]
      have q1 : faB (updI (C 5) F' (-1)) F' = false := by unfold faB; rw [updI_s]; exact decide_eq_false (by decide)
      have q2 : gbB (c 4).toNat (updI (C 5) F' (-1)) (-1) F' = true := by unfold gbB; rw [updI_s]; exact decide_eq_true ⟨by omega, rfl⟩
      refine ⟨⟨by omega, by omega, by omega⟩, by omega, ⟨f3.1, by omega⟩, ?_, fun j a d => ?_, ?_, fun j a d y => ?_⟩
      · rw [cnt_S, q1, fa F' (Nat.le_refl _), e4, if_neg (by decide)]; omega
      · have hj : j < F' := by
          by_cases w : j = F'
          · subst w; rw [updI_s] at d; omega
          · omega
        have r := cnt_r (faB (C 5)) j
        rw [updI_n (by omega)] at d ⊢
        rw [updI_n (by omega), updI_n (by omega), fa j (by omega), eN _ (by omega) (by omega) (by omega), eN _ (by omega) (by omega) (by omega), eN _ (by omega) (by omega) (by omega)]
        exact f5 j hj d
      · rw [cnt_S, q2, gb F' (Nat.le_refl _), e5, if_pos rfl]; omega
      · by_cases w : j = F'
        · subst w
          rw [updI_s, updI_s, gb j (Nat.le_refl _), ← f6]
          exact ⟨by rw [show 2688 + 2 * (m 5).toNat = (2688 + 2 * m 5).toNat by omega]; exact eA, by rw [show 2689 + 2 * (m 5).toNat = (2689 + 2 * m 5).toNat by omega]; exact eB⟩
        · have hj : j < F' := by omega
          have r := cnt_r (gbB (c 4).toNat (C 5) (-1)) j
          rw [updI_n w] at y
          have lt : cnt (gbB (c 4).toNat (C 5) (-1)) j < m 5 := by
            have s1 : gbB (c 4).toNat (C 5) (-1) j = true := by unfold gbB; exact decide_eq_true ⟨by omega, y⟩
            have s2 := cnt_S (p := gbB (c 4).toNat (C 5) (-1)) (n := j)
            rw [s1, if_pos rfl] at s2
            have s3 := cnt_mono (p := gbB (c 4).toNat (C 5) (-1)) (show j + 1 ≤ F' by omega)
            omega
          rw [updI_n w, updI_n w, gb j (by omega), eN _ (by omega) (by omega) (by omega), eN _ (by omega) (by omega) (by omega)]
          exact f7 j hj d y
    · have e5 : gathersM m b v t 5 = m 5 := by unfold gathersM; rw [if_neg hb0, updI_n (by omega), updI_n (by omega), updI_n (by omega), updI_n (by omega)]
      have e4 : gathersM m b v t 4 = m 4 + 1 := by unfold gathersM; rw [if_neg hb0, updI_s]
      have eA : gathersM m b v t (2328 + 3 * m 4).toNat = b := by unfold gathersM; rw [if_neg hb0, updI_n (by omega), updI_n (by omega), updI_n (by omega), updI_s]
      have eB : gathersM m b v t (2329 + 3 * m 4).toNat = v := by unfold gathersM; rw [if_neg hb0, updI_n (by omega), updI_n (by omega), updI_s]
      have eC : gathersM m b v t (2330 + 3 * m 4).toNat = t := by unfold gathersM; rw [if_neg hb0, updI_n (by omega), updI_s]
      have eN : ∀ q, 2328 ≤ q → ¬ q = (2328 + 3 * m 4).toNat → ¬ q = (2329 + 3 * m 4).toNat → ¬ q = (2330 + 3 * m 4).toNat → gathersM m b v t q = m q := fun q a y z w => by
        unfold gathersM; rw [if_neg hb0, updI_n (by omega), updI_n w, updI_n z, updI_n y]
      have q1 : faB (updI (C 5) F' b) F' = true := by unfold faB; rw [updI_s]; exact decide_eq_true (by omega)
      have q2 : gbB (c 4).toNat (updI (C 5) F' b) (-1) F' = false := by unfold gbB; rw [updI_s]; exact decide_eq_false (fun w => by omega)
      refine ⟨⟨by omega, by omega, by omega⟩, by omega, ⟨f3.1, by omega⟩, ?_, fun j a d => ?_, ?_, fun j a d y => ?_⟩
      · rw [cnt_S, q1, fa F' (Nat.le_refl _), e4, if_pos rfl]; omega
      · by_cases w : j = F'
        · subst w
          rw [updI_s, updI_s, updI_s, fa j (Nat.le_refl _), ← f4]
          exact ⟨by rw [show 2328 + 3 * (m 4).toNat = (2328 + 3 * m 4).toNat by omega]; exact eA, by rw [show 2329 + 3 * (m 4).toNat = (2329 + 3 * m 4).toNat by omega]; exact eB, by rw [show 2330 + 3 * (m 4).toNat = (2330 + 3 * m 4).toNat by omega]; exact eC⟩
        · have hj : j < F' := by omega
          have r := cnt_r (faB (C 5)) j
          rw [updI_n w] at d ⊢
          have lt : cnt (faB (C 5)) j < m 4 := by
            have s1 : faB (C 5) j = true := by unfold faB; exact decide_eq_true d
            have s2 := cnt_S (p := faB (C 5)) (n := j)
            rw [s1, if_pos rfl] at s2
            have s3 := cnt_mono (p := faB (C 5)) (show j + 1 ≤ F' by omega)
            omega
          rw [updI_n w, updI_n w, fa j (by omega), eN _ (by omega) (by omega) (by omega) (by omega), eN _ (by omega) (by omega) (by omega) (by omega), eN _ (by omega) (by omega) (by omega) (by omega)]
          exact f5 j hj d
      · rw [cnt_S, q2, gb F' (Nat.le_refl _), e5, if_neg (by decide)]; omega
      · have hj : j < F' := by
          by_cases w : j = F'
          · subst w; rw [updI_s] at y; omega
          · omega
        have r := cnt_r (gbB (c 4).toNat (C 5) (-1)) j
        rw [updI_n (by omega)] at y
        rw [updI_n (by omega), updI_n (by omega), gb j (by omega), eN _ (by omega) (by omega) (by omega) (by omega), eN _ (by omega) (by omega) (by omega) (by omega)]
        exact f7 j hj d y
  · exact crG_c G k1.2 (um 1 (by omega) (by omega) (by omega)) (fun u hu => ⟨um _ (by omega) (by omega) (by omega), um _ (by omega) (by omega) (by omega)⟩) (fun _ _ => rfl)
  · unfold gaC
    exact updI_r (updI_r (updI_r R.1 ⟨by omega, by omega⟩) ⟨by omega, by omega⟩) ⟨by omega, by omega⟩
  · unfold gaD
    exact updC_r (updC_r (updC_r R.2 (updI_r (R.2 3) hv)) (updI_r (R.2 4) ⟨by omega, by omega⟩)) (updI_r (R.2 5) ⟨by omega, by omega⟩)
end CHG2
end mg_9y
