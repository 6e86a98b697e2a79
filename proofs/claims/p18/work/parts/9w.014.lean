section mg_9z
section CHG3
variable {x : Int} {m pool c : Nat → Int} {S : Nat → Option mO} {C : Nat → Nat → Int} {nm : Nat → Int64} {g : Nat → Option Nat}
/-- a thing is MOVED -/
theorem CR_move (h : CRx 0 m pool S c C nm g) (hok : mOk m) {t Z : Nat} {s : Int} (ht : (t : Int) < m 1) (h0 : m (258 + 14 * t) = 0) (hs : InR s) (hZ : c 10 = (Z : Int)) : CRx 0 (movesM m t s) pool S (mvC c t s (cnt (notB (t : Int) (C 2)) Z)) (mvD C Z t) nm g := by
  obtain ⟨n, T, A, K, L, ⟨Z', e⟩, ⟨F, f⟩, G, R⟩ := h
  have k0 := hok.2.1
  have k1 := hok.2.2.1
  have k2 := hok.2.2.2.1
  have k3 := hok.2.2.2.2.1
  have hZ' : Z' = Z := by have := e.1; omega
  subst hZ'
  obtain ⟨d1, d2, d3⟩ := ordE_d (crE_o.mp e).2.2 (e0 := (t : Int)) ((nodP_t ht k1.2).mpr (by rw [h0]; decide))
  have um : ∀ q, ¬ q = 259 + 14 * t → ¬ q = 6 → ¬ q = 260 + 14 * t → movesM m t s q = m q := fun q a b d => by
    unfold movesM; rw [updI_n d, updI_n b, updI_n a]
  have mow : movesM m t s (259 + 14 * t) = s := by unfold movesM; rw [updI_n (by omega), updI_n (by omega), updI_s]
  have m6 : movesM m t s 6 = m 6 + 1 := by unfold movesM; rw [updI_n (by omega), updI_s]
  have msp : movesM m t s (260 + 14 * t) = m 6 + 1 := by unfold movesM; rw [updI_s]
  obtain ⟨k', hk'⟩ : ∃ k', cnt (notB (t : Int) (C 2)) Z' = k' := ⟨_, rfl⟩
  have D2 : mvD C Z' t 2 = updI (drA (t : Int) (C 2) Z') (Z' - 1) (t : Int) := by
    unfold mvD; rw [updC_s, hk', show k'.toNat = Z' - 1 by omega]
  have Dn : ∀ k, ¬ k = 2 → mvD C Z' t k = C k := fun k a => by unfold mvD; rw [updC_n a, updC_n a]
  rw [hk'] at d1 ⊢
  have uc : ∀ q, ¬ q = 33 + 3 * t → ¬ q = 10 → mvC c t s k' q = c q := fun q a b => by
    unfold mvC; rw [updI_n b, updI_n b, updI_n a]
  have cow : mvC c t s k' (33 + 3 * t) = s := by unfold mvC; rw [updI_n (by omega), updI_n (by omega), updI_s]
  have c10 : mvC c t s k' 10 = k' + 1 := by unfold mvC; rw [updI_s]
  have er := e.2.1
  have fb := f.2.1
  refine ⟨?_, ?_, ?_, ?_, ?_, ⟨Z', ?_⟩, ⟨F, ?_⟩, ?_, ?_, ?_⟩
  · unfold crN
    rw [um 0 (by omega) (by omega) (by omega), um 1 (by omega) (by omega) (by omega), um 2 (by omega) (by omega) (by omega), um 3 (by omega) (by omega) (by omega), uc 0 (by omega) (by omega), uc 1 (by omega) (by omega), uc 2 (by omega) (by omega), uc 8 (by omega) (by omega), uc 9 (by omega) (by omega)]
    exact n
  · intro u hu
    rw [um 1 (by omega) (by omega) (by omega)] at hu
    obtain ⟨t1, t2, t3, t4, t5⟩ := T u hu
    have q4 : ∀ q, 261 + 14 * u ≤ q → q < 272 + 14 * u → movesM m t s q = m q := fun q a b => um q (by omega) (by omega) (by omega)
    rw [uc (32 + 3 * u) (by omega) (by omega), uc (34 + 3 * u) (by omega) (by omega), um (258 + 14 * u) (by omega) (by omega) (by omega), um (264 + 14 * u) (by omega) (by omega) (by omega)]
    refine ⟨t1, ?_, t3, t4.trans (nmR_c (q4 _ (by omega) (by omega)) t5.1.2 (fun j hj => q4 _ (by omega) (by omega))).symm, nmOk_c (q4 _ (by omega) (by omega)) (fun j hj => q4 _ (by omega) (by omega)) t5⟩
    by_cases w : u = t
    · subst w; rw [cow, mow]
    · rw [uc _ (by omega) (by omega), um _ (by omega) (by omega) (by omega)]; exact t2
  · exact crS_c A k0.2 (um 0 (by omega) (by omega) (by omega)) (fun q a b => um q (by omega) (by omega) (by omega)) (fun q a b => uc q (by omega) (by omega))
  · exact crK_c K (um 3 (by omega) (by omega) (by omega)) (fun q a b => um q (by omega) (by omega) (by omega)) (fun q a => uc q (by omega) (by omega)) k3.2
  · exact crL_c L k2.2 (um 2 (by omega) (by omega) (by omega)) (fun q a b => um q (by omega) (by omega) (by omega)) (fun q a b => um q (by omega) (by omega) (by omega)) (Dn 0 (by decide)) (Dn 1 (by decide))
  · rw [D2]
    have sN : stampI (movesM m t s) (t : Int) = m 6 + 1 := by rw [stampI_t (by omega)]; exact msp
    have so : ∀ e', (nodP m e' ∧ ¬ e' = (t : Int)) → stampI (movesM m t s) e' = stampI m e' := fun e' he => by
      obtain ⟨h1, h2⟩ := he
      rcases h1 with ⟨u, rfl, b, -⟩ | ⟨a, rfl, d, b, -⟩
      · rw [stampI_t (by omega), stampI_t (by omega)]; exact um _ (by omega) (by omega) (by omega)
      · rw [stampI_s, stampI_s]; exact um _ (by omega) (by omega) (by omega)
    refine crE_o.mpr ⟨by rw [c10]; omega, by rw [um 1 (by omega) (by omega) (by omega), um 0 (by omega) (by omega) (by omega)]; omega, ?_⟩
    have oa := ordE_a d3 (st' := stampI (movesM m t s)) (e1 := (t : Int)) (top' := m 6 + 1) so (by rw [sN]; omega) (by rw [sN]; omega)
    rw [show Z' - 1 + 1 = Z' by omega] at oa
    refine ordE_c oa (fun e' => ?_) (fun _ _ => rfl) (by rw [m6]; exact Int.le_refl _)
    have nd : nodP (movesM m t s) e' ↔ nodP m e' := nodP_c (um 0 (by omega) (by omega) (by omega)) (um 1 (by omega) (by omega) (by omega)) (fun u hu => by rw [um _ (by omega) (by omega) (by omega)]) (fun u hu hb => by rw [um _ (by omega) (by omega) (by omega)])
    rw [nd]
    constructor
    · intro h1
      by_cases w : e' = (t : Int)
      · exact Or.inr w
      · exact Or.inl ⟨h1, w⟩
    · rintro (⟨h1, -⟩ | rfl)
      · exact h1
      · exact (nodP_t ht k1.2).mpr (by rw [h0]; decide)
  · exact crF_c f (by omega) (uc 11 (by omega) (by omega)) (uc 12 (by omega) (by omega)) (uc 13 (by omega) (by omega)) (uc 4 (by omega) (by omega)) (um 2 (by omega) (by omega) (by omega)) (um 4 (by omega) (by omega) (by omega)) (um 5 (by omega) (by omega) (by omega)) (fun q a b => um q (by omega) (by omega) (by omega)) (Dn 3 (by decide)) (Dn 4 (by decide)) (Dn 5 (by decide))
  · exact crG_c G k1.2 (um 1 (by omega) (by omega) (by omega)) (fun u hu => ⟨um _ (by omega) (by omega) (by omega), um _ (by omega) (by omega) (by omega)⟩) (fun _ _ => rfl)
  · unfold mvC
    exact updI_r (updI_r (updI_r R.1 hs) ⟨by omega, by omega⟩) ⟨by omega, by omega⟩
  · unfold mvD
    exact updC_r (updC_r R.2 (drA_r (R.2 2) Z')) (updI_r (drA_r (R.2 2) Z') ⟨by omega, by omega⟩)
end CHG3
end mg_9z
