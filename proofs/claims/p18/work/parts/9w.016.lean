section mg_9z
section CHG3
variable {x : Int} {m pool c : Nat → Int} {S : Nat → Option mO} {C : Nat → Nat → Int} {nm : Nat → Int64} {g : Nat → Option Nat}
/-- a scope comes -/
theorem CR_opens (h : CRx 0 m pool S c C nm g) (hok : mOk m) {N p Z : Nat} {t : Int} (hN : m 0 = (N : Int)) (h9 : N < 60) (hN1 : 1 ≤ N) (hp : p < 60) (ht : InR t) (hZ : c 10 = (Z : Int)) : CRx 0 (opensM m N p t) pool S (adE (asC c N (p : Int) t) Z) (updC C 2 (updI (C 2) Z (100 + (N : Int)))) nm g := by
  obtain ⟨n, T, A, K, L, ⟨Z', e⟩, ⟨F, f⟩, G, R⟩ := h
  have k0 := hok.2.1
  have k1 := hok.2.2.1
  have k2 := hok.2.2.2.1
  have k3 := hok.2.2.2.2.1
  have hZ' : Z' = Z := by have := e.1; omega
  subst hZ'
  obtain ⟨o1, o2, o3, o4, o5, o6, o7⟩ := opensM_at (m := m) (C := N) (p := (p : Int)) (t := t)
  have um : ∀ q, ¬ q = 0 → ¬ q = 6 → (q < 18 + 4 * N ∨ 22 + 4 * N ≤ q) → opensM m N p t q = m q := o7
  have uc : ∀ q, ¬ q = 1 → ¬ q = 10 → (q < 304 + 3 * N ∨ 307 + 3 * N ≤ q) → adE (asC c N (p : Int) t) Z' q = c q := fun q a b d => by
    unfold adE asC
    rw [updI_n (by omega), updI_n (by omega), updI_n (by omega), updI_n (by omega), updI_n (by omega)]
  have c1 : adE (asC c N (p : Int) t) Z' 1 = (N : Int) + 1 := by unfold adE asC; rw [updI_n (by omega), updI_n (by omega), updI_n (by omega), updI_n (by omega), updI_s]
  have c10 : adE (asC c N (p : Int) t) Z' 10 = (Z' : Int) + 1 := by unfold adE; rw [updI_s]
  have cs : adE (asC c N (p : Int) t) Z' (304 + 3 * N) = 0 := by unfold adE asC; rw [updI_n (by omega), updI_n (by omega), updI_n (by omega), updI_s]
  have cp : adE (asC c N (p : Int) t) Z' (305 + 3 * N) = p := by unfold adE asC; rw [updI_n (by omega), updI_n (by omega), updI_s]
  have ck : adE (asC c N (p : Int) t) Z' (306 + 3 * N) = t := by unfold adE asC; rw [updI_n (by omega), updI_s]
  have er := e.2.1
  have fb := f.2.1
  refine ⟨?_, ?_, ?_, ?_, ?_, ⟨Z' + 1, ?_⟩, ⟨F, ?_⟩, ?_, ?_, ?_⟩
  · unfold crN
    rw [o1, um 1 (by omega) (by omega) (by omega), um 2 (by omega) (by omega) (by omega), um 3 (by omega) (by omega) (by omega), uc 0 (by omega) (by omega) (by omega), c1, uc 2 (by omega) (by omega) (by omega), uc 8 (by omega) (by omega) (by omega), uc 9 (by omega) (by omega) (by omega)]
    exact ⟨n.1, rfl, n.2.2⟩
  · exact crT_c T k1.2 (um 1 (by omega) (by omega) (by omega)) (fun q w y => um q (by omega) (by omega) (by omega)) (fun q w y => uc q (by omega) (by omega) (by omega)) rfl
  · intro u hu
    rw [o1] at hu
    by_cases w : u = N
    · subst w
      rw [cs, cp, ck, o2, o3, o5]; exact ⟨by decide, rfl, rfl⟩
    · rw [uc _ (by omega) (by omega) (by omega), uc _ (by omega) (by omega) (by omega), uc _ (by omega) (by omega) (by omega), um _ (by omega) (by omega) (by omega), um _ (by omega) (by omega) (by omega), um _ (by omega) (by omega) (by omega)]
      exact A u (by omega)
  · exact crK_c K (um 3 (by omega) (by omega) (by omega)) (fun q w y => um q (by omega) (by omega) (by omega)) (fun q w => uc q (by omega) (by omega) (by omega)) k3.2
  · exact crL_c L k2.2 (um 2 (by omega) (by omega) (by omega)) (fun q w y => um q (by omega) (by omega) (by omega)) (fun q w y => um q (by omega) (by omega) (by omega)) (updC_n (by decide)) (updC_n (by decide))
  · rw [updC_s]
    have sN : stampI (opensM m N p t) (100 + (N : Int)) = m 6 + 1 := by rw [stampI_s]; exact o4
    have so : ∀ e', nodP m e' → stampI (opensM m N p t) e' = stampI m e' := fun e' he => stampI_c k1.2 (fun u hu => um _ (by omega) (by omega) (by omega)) (fun u hu hb => um _ (by omega) (by omega) (by omega)) he
    refine crE_o.mpr ⟨by rw [c10]; omega, by rw [o1, um 1 (by omega) (by omega) (by omega)]; omega, ?_⟩
    refine ordE_c (ordE_a (crE_o.mp e).2.2 (st' := stampI (opensM m N p t)) (e1 := 100 + (N : Int)) (top' := m 6 + 1) so (by rw [sN]; omega) (by rw [sN]; omega)) (fun e' => ?_) (fun _ _ => rfl) (by rw [o6]; exact Int.le_refl _)
    unfold nodP
    rw [um 1 (by omega) (by omega) (by omega), o1]
    constructor
    · rintro (⟨u, a, b, d⟩ | ⟨u, a, d1, b, d⟩)
      · rw [um _ (by omega) (by omega) (by omega)] at d
        exact Or.inl (Or.inl ⟨u, a, b, d⟩)
      · by_cases w : u = N
        · subst w; exact Or.inr a
        · rw [um _ (by omega) (by omega) (by omega)] at d
          exact Or.inl (Or.inr ⟨u, a, d1, by omega, d⟩)
    · rintro ((⟨u, a, b, d⟩ | ⟨u, a, d1, b, d⟩) | w)
      · exact Or.inl ⟨u, a, b, by rw [um _ (by omega) (by omega) (by omega)]; exact d⟩
      · exact Or.inr ⟨u, a, d1, by omega, by rw [um _ (by omega) (by omega) (by omega)]; exact d⟩
      · exact Or.inr ⟨N, w, hN1, by omega, by rw [o2]; decide⟩
  · exact crF_c f (by omega) (uc 11 (by omega) (by omega) (by omega)) (uc 12 (by omega) (by omega) (by omega)) (uc 13 (by omega) (by omega) (by omega)) (uc 4 (by omega) (by omega) (by omega)) (um 2 (by omega) (by omega) (by omega)) (um 4 (by omega) (by omega) (by omega)) (um 5 (by omega) (by omega) (by omega)) (fun q a b => um q (by omega) (by omega) (by omega)) (updC_n (by decide)) (updC_n (by decide)) (updC_n (by decide))
  · exact crG_c G k1.2 (um 1 (by omega) (by omega) (by omega)) (fun u hu => ⟨um _ (by omega) (by omega) (by omega), um _ (by omega) (by omega) (by omega)⟩) (fun _ _ => rfl)
  · unfold adE asC
    exact updI_r (updI_r (updI_r (updI_r (updI_r R.1 ⟨by omega, by omega⟩) (by decide)) ⟨by omega, by omega⟩) ht) ⟨by omega, by omega⟩
  · exact updC_r R.2 (updI_r (R.2 2) ⟨by omega, by omega⟩)
end CHG3
end mg_9z
