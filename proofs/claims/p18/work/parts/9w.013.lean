section mg_9z
section CHG3
variable {x : Int} {m pool c : Nat → Int} {S : Nat → Option mO} {C : Nat → Nat → Int} {nm : Nat → Int64} {g : Nat → Option Nat}
/-- a thing is TAKEN -/
theorem CR_take (h : CRx 0 m pool S c C nm g) (hok : mOk m) {rc : Nat → Int} {N fr to P E Z : Nat} {o : Int} {inn : Option Nat} (hN : m 1 = (N : Int)) (h9 : N < 90) (hn : 1 ≤ to - fr ∧ to - fr ≤ 7) (hft : fr ≤ to) (hl : ∀ j, fr ≤ j → j < to → isLt (rc j)) (ho : InR o) (hx : tpO S pool inn P E) (hZ : c 10 = (Z : Int)) :
    CRx 0 (takesM m rc N o fr to P E) pool S (adE (adC c N o) Z) (updC C 2 (updI (C 2) Z (N : Int))) (updL nm N (nmY rc fr to)) (updO g (2 * N) inn) := by
  obtain ⟨n, T, A, K, L, ⟨Z', e⟩, ⟨F, f⟩, G, R⟩ := h
  have k0 := hok.2.1
  have k1 := hok.2.2.1
  have k2 := hok.2.2.2.1
  have k3 := hok.2.2.2.2.1
  have hZ' : Z' = Z := by have := e.1; omega
  subst hZ'
  have um : ∀ q, ¬ q = 1 → ¬ q = 6 → (q < 258 + 14 * N ∨ 272 + 14 * N ≤ q) → takesM m rc N o fr to P E q = m q := fun q a b d => takesM_n hn.2 a b d
  have uc : ∀ q, ¬ q = 0 → ¬ q = 10 → (q < 32 + 3 * N ∨ 35 + 3 * N ≤ q) → adE (adC c N o) Z' q = c q := fun q a b d => by
    unfold adE adC
    rw [updI_n (by omega), updI_n (by omega), updI_n (by omega), updI_n (by omega), updI_n (by omega)]
  have c0 : adE (adC c N o) Z' 0 = (N : Int) + 1 := by unfold adE adC; rw [updI_n (by omega), updI_n (by omega), updI_n (by omega), updI_n (by omega), updI_s]
  have c10 : adE (adC c N o) Z' 10 = (Z' : Int) + 1 := by unfold adE; rw [updI_s]
  have cst : adE (adC c N o) Z' (32 + 3 * N) = 0 := by unfold adE adC; rw [updI_n (by omega), updI_n (by omega), updI_n (by omega), updI_s]
  have cow : adE (adC c N o) Z' (33 + 3 * N) = o := by unfold adE adC; rw [updI_n (by omega), updI_n (by omega), updI_s]
  have cpl : adE (adC c N o) Z' (34 + 3 * N) = -5 := by unfold adE adC; rw [updI_n (by omega), updI_s]
  have m1 : takesM m rc N o fr to P E 1 = (N : Int) + 1 := takesM_1
  have m6 : takesM m rc N o fr to P E 6 = m 6 + 1 := takesM_6
  have er := e.2.1
  have fb := f.2.1
  refine ⟨?_, ?_, ?_, ?_, ?_, ⟨Z' + 1, ?_⟩, ⟨F, ?_⟩, ?_, ?_, ?_⟩
  · unfold crN
    rw [um 0 (by omega) (by omega) (by omega), m1, um 2 (by omega) (by omega) (by omega), um 3 (by omega) (by omega) (by omega), c0, uc 1 (by omega) (by omega) (by omega), uc 2 (by omega) (by omega) (by omega), uc 8 (by omega) (by omega) (by omega), uc 9 (by omega) (by omega) (by omega)]
    exact ⟨rfl, n.2⟩
  · intro u hu
    rw [m1] at hu
    by_cases w : u = N
    · subst w
      rw [cst, cow, cpl, takesM_st, takesM_ow, takesM_pl, nmR_take hn.2 hft]
      refine ⟨by decide, rfl, rfl, by unfold updL; rw [if_pos rfl], ?_⟩
      unfold nmOk
      rw [takesM_ln]
      refine ⟨by omega, fun j hj => ?_⟩
      rw [takesM_nm hn.2 (by omega), if_pos (by omega)]
      exact hl _ (by omega) (by omega)
    · obtain ⟨t1, t2, t3, t4, t5⟩ := T u (by omega)
      have q4 : ∀ q, 258 + 14 * u ≤ q → q < 272 + 14 * u → takesM m rc N o fr to P E q = m q := fun q a b => um q (by omega) (by omega) (by omega)
      rw [uc _ (by omega) (by omega) (by omega), uc _ (by omega) (by omega) (by omega), uc _ (by omega) (by omega) (by omega), q4 _ (by omega) (by omega), q4 _ (by omega) (by omega), q4 _ (by omega) (by omega)]
      refine ⟨t1, t2, t3, ?_, nmOk_c (q4 _ (by omega) (by omega)) (fun j hj => q4 _ (by omega) (by omega)) t5⟩
      rw [show updL nm N (nmY rc fr to) u = nm u by unfold updL; rw [if_neg w]]
      exact t4.trans (nmR_c (q4 _ (by omega) (by omega)) t5.1.2 (fun j hj => q4 _ (by omega) (by omega))).symm
  · exact crS_c A k0.2 (um 0 (by omega) (by omega) (by omega)) (fun q a b => um q (by omega) (by omega) (by omega)) (fun q a b => uc q (by omega) (by omega) (by omega))
  · exact crK_c K (um 3 (by omega) (by omega) (by omega)) (fun q a b => um q (by omega) (by omega) (by omega)) (fun q a => uc q (by omega) (by omega) (by omega)) k3.2
  · exact crL_c L k2.2 (um 2 (by omega) (by omega) (by omega)) (fun q a b => um q (by omega) (by omega) (by omega)) (fun q a b => um q (by omega) (by omega) (by omega)) (updC_n (by decide)) (updC_n (by decide))
  · rw [updC_s]
    have sN : stampI (takesM m rc N o fr to P E) (N : Int) = m 6 + 1 := by rw [stampI_t (by omega)]; exact takesM_sp
    have so : ∀ e', nodP m e' → stampI (takesM m rc N o fr to P E) e' = stampI m e' := fun e' he => stampI_c k1.2 (fun u hu => um _ (by omega) (by omega) (by omega)) (fun u hu hb => um _ (by omega) (by omega) (by omega)) he
    refine crE_o.mpr ⟨by rw [c10]; omega, by rw [m1, um 0 (by omega) (by omega) (by omega)]; omega, ?_⟩
    refine ordE_c (ordE_a (crE_o.mp e).2.2 (st' := stampI (takesM m rc N o fr to P E)) (e1 := (N : Int)) (top' := m 6 + 1) so (by rw [sN]; omega) (by rw [sN]; omega)) (fun e' => ?_) (fun _ _ => rfl) (by rw [m6]; exact Int.le_refl _)
    unfold nodP
    rw [um 0 (by omega) (by omega) (by omega), m1]
    constructor
    · rintro (⟨u, a, b, d⟩ | ⟨u, a, d1, b, d⟩)
      · by_cases w : u = N
        · subst w; exact Or.inr a
        · rw [um _ (by omega) (by omega) (by omega)] at d
          exact Or.inl (Or.inl ⟨u, a, by omega, d⟩)
      · rw [um _ (by omega) (by omega) (by omega)] at d
        exact Or.inl (Or.inr ⟨u, a, d1, b, d⟩)
    · rintro ((⟨u, a, b, d⟩ | ⟨u, a, d1, b, d⟩) | w)
      · exact Or.inl ⟨u, a, by omega, by rw [um _ (by omega) (by omega) (by omega)]; exact d⟩
      · exact Or.inr ⟨u, a, d1, b, by rw [um _ (by omega) (by omega) (by omega)]; exact d⟩
      · exact Or.inl ⟨N, w, by omega, by rw [takesM_st]; decide⟩
  · exact crF_c f (by omega) (uc 11 (by omega) (by omega) (by omega)) (uc 12 (by omega) (by omega) (by omega)) (uc 13 (by omega) (by omega) (by omega)) (uc 4 (by omega) (by omega) (by omega)) (um 2 (by omega) (by omega) (by omega)) (um 4 (by omega) (by omega) (by omega)) (um 5 (by omega) (by omega) (by omega)) (fun q a b => um q (by omega) (by omega) (by omega)) (updC_n (by decide)) (updC_n (by decide)) (updC_n (by decide))
  · intro u hu
    rw [m1] at hu
    by_cases w : u = N
    · subst w
      exact ⟨P, E, takesM_p, takesM_e, by rw [updO_s]; exact hx⟩
    · rw [um _ (by omega) (by omega) (by omega), um _ (by omega) (by omega) (by omega), updO_n (by omega)]
      exact G u (by omega)
  · unfold adE adC
    exact updI_r (updI_r (updI_r (updI_r (updI_r R.1 ⟨by omega, by omega⟩) (by decide)) ho) (by decide)) ⟨by omega, by omega⟩
  · exact updC_r R.2 (updI_r (R.2 2) ⟨by omega, by omega⟩)
end CHG3
end mg_9z
