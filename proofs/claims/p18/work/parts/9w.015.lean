section mg_9z
section CHG3
variable {x : Int} {m pool c : Nat → Int} {S : Nat → Option mO} {C : Nat → Nat → Int} {nm : Nat → Int64} {g : Nat → Option Nat}
/-- a scope is SHUT -/
theorem CR_sce (h : CRx 0 m pool S c C nm g) (hok : mOk m) {a Z : Nat} (ha : (a : Int) < m 0) (h1 : m (18 + 4 * a) = 1) (hZ : c 10 = (Z : Int)) : CRx 0 (updI m (18 + 4 * a) (if a = 0 then 0 else 2)) pool S (gsC c a (cnt (notB (100 + (a : Int)) (C 2)) Z)) (updC C 2 (drA (100 + (a : Int)) (C 2) Z)) nm g := by
  obtain ⟨n, T, A, K, L, ⟨Z', e⟩, ⟨F, f⟩, G, R⟩ := h
  have k0 := hok.2.1
  have k1 := hok.2.2.1
  have k2 := hok.2.2.2.1
  have k3 := hok.2.2.2.2.1
  have hZ' : Z' = Z := by have := e.1; omega
  subst hZ'
  have um : ∀ q, ¬ q = 18 + 4 * a → updI m (18 + 4 * a) (if a = 0 then 0 else 2) q = m q := fun q w => updI_n w
  obtain ⟨k', hk'⟩ : ∃ k', cnt (notB (100 + (a : Int)) (C 2)) Z' = k' := ⟨_, rfl⟩
  have uc : ∀ q, ¬ q = 304 + 3 * a → ¬ q = 10 → gsC c a k' q = c q := fun q u w => by unfold gsC; rw [updI_n w, updI_n u]
  have cst : gsC c a k' (304 + 3 * a) = if a = 0 then 0 else 1 := by unfold gsC; rw [updI_n (by omega), updI_s]
  have c10 : gsC c a k' 10 = k' := by unfold gsC; rw [updI_s]
  have er := e.2.1
  have fb := f.2.1
  have kr := cnt_r (notB (100 + (a : Int)) (C 2)) Z'
  have ent : ∃ Z2 : Nat, k' = Z2 ∧ (Z2 : Int) ≤ Z' ∧ ordE (nodP (updI m (18 + 4 * a) (if a = 0 then 0 else 2))) (stampI (updI m (18 + 4 * a) (if a = 0 then 0 else 2))) (m 6) (drA (100 + (a : Int)) (C 2) Z') Z2 := by
    have so : ∀ e', nodP m e' → stampI (updI m (18 + 4 * a) (if a = 0 then 0 else 2)) e' = stampI m e' := fun e' he => stampI_c k1.2 (fun u hu => um _ (by omega)) (fun u hu hb => um _ (by omega)) he
    by_cases z : a = 0
    · subst z
      have nn : ∀ j, j < Z' → ¬ C 2 j = 100 + ((0 : Nat) : Int) := fun j hj w => by
        have := e.2.2.1 j hj
        rw [w] at this
        have := (nodP_s (a := 0) k1.2).mp this
        omega
      obtain ⟨x1, x2⟩ := dr_lo (v := 100 + ((0 : Nat) : Int)) (f := C 2) Z' nn
      refine ⟨Z', by rw [← hk']; exact x1, Int.le_refl _, ?_⟩
      have fe : drA (100 + ((0 : Nat) : Int)) (C 2) Z' = C 2 := funext x2
      rw [fe]
      refine ordE_c (crE_o.mp e).2.2 (fun e' => nodP_c (um 0 (by omega)) (um 1 (by omega)) (fun u hu => by rw [um _ (by omega)]) (fun u hu hb => by rw [um _ (by omega)])) so (Int.le_refl _)
    · obtain ⟨d1, d2, d3⟩ := ordE_d (crE_o.mp e).2.2 (e0 := 100 + (a : Int)) ((nodP_s k1.2).mpr ⟨by omega, ha, by rw [h1]; decide⟩)
      refine ⟨Z' - 1, by omega, by omega, ordE_c d3 (fun e' => ?_) (fun e' he => so e' he.1) (Int.le_refl _)⟩
      unfold nodP
      rw [um 0 (by omega), um 1 (by omega)]
      constructor
      · rintro (⟨u, p, b, d⟩ | ⟨u, p, q, b, d⟩)
        · rw [um _ (by omega)] at d
          exact ⟨Or.inl ⟨u, p, b, d⟩, by omega⟩
        · by_cases w : u = a
          · subst w; rw [updI_s, if_neg z] at d; exact absurd rfl d
          · rw [um _ (by omega)] at d
            exact ⟨Or.inr ⟨u, p, q, b, d⟩, by omega⟩
      · rintro ⟨⟨u, p, b, d⟩ | ⟨u, p, q, b, d⟩, w⟩
        · exact Or.inl ⟨u, p, b, by rw [um _ (by omega)]; exact d⟩
        · exact Or.inr ⟨u, p, q, b, by rw [um _ (by omega)]; exact d⟩
  obtain ⟨Z2, z1, z2, z3⟩ := ent
  rw [hk']
  refine ⟨?_, ?_, ?_, ?_, ?_, ⟨Z2, ?_⟩, ⟨F, ?_⟩, ?_, ?_, ?_⟩
  · unfold crN
    rw [um 0 (by omega), um 1 (by omega), um 2 (by omega), um 3 (by omega), uc 0 (by omega) (by omega), uc 1 (by omega) (by omega), uc 2 (by omega) (by omega), uc 8 (by omega) (by omega), uc 9 (by omega) (by omega)]
    exact n
  · exact crT_c T k1.2 (um 1 (by omega)) (fun q w y => um q (by omega)) (fun q w y => uc q (by omega) (by omega)) rfl
  · intro u hu
    rw [um 0 (by omega)] at hu
    obtain ⟨t1, t2, t3⟩ := A u hu
    rw [uc (305 + 3 * u) (by omega) (by omega), uc (306 + 3 * u) (by omega) (by omega), um (19 + 4 * u) (by omega), um (21 + 4 * u) (by omega)]
    refine ⟨?_, t2, t3⟩
    by_cases w : u = a
    · subst w
      rw [cst, updI_s]
      by_cases z : u = 0
      · rw [if_pos z, if_pos z]; decide
      · rw [if_neg z, if_neg z]; decide
    · rw [uc _ (by omega) (by omega), um _ (by omega)]; exact t1
  · exact crK_c K (um 3 (by omega)) (fun q w y => um q (by omega)) (fun q w => uc q (by omega) (by omega)) k3.2
  · exact crL_c L k2.2 (um 2 (by omega)) (fun q w y => um q (by omega)) (fun q w y => um q (by omega)) (updC_n (by decide)) (updC_n (by decide))
  · rw [updC_s]
    exact crE_o.mpr ⟨by rw [c10]; exact z1, by rw [um 1 (by omega), um 0 (by omega)]; omega, by rw [um 6 (by omega)]; exact z3⟩
  · exact crF_c f (by omega) (uc 11 (by omega) (by omega)) (uc 12 (by omega) (by omega)) (uc 13 (by omega) (by omega)) (uc 4 (by omega) (by omega)) (um 2 (by omega)) (um 4 (by omega)) (um 5 (by omega)) (fun q w y => um q (by omega)) (updC_n (by decide)) (updC_n (by decide)) (updC_n (by decide))
  · exact crG_c G k1.2 (um 1 (by omega)) (fun u hu => ⟨um _ (by omega), um _ (by omega)⟩) (fun _ _ => rfl)
  · unfold gsC
    exact updI_r (updI_r R.1 (by split <;> decide)) ⟨by omega, by omega⟩
  · exact updC_r R.2 (drA_r (R.2 2) Z')
end CHG3
end mg_9z
