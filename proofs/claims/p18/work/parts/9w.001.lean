section mg_9w
section CRc
variable {x : Int} {m m' pool pool' c c' : Nat → Int} {S S' : Nat → Option mO} {C C' : Nat → Nat → Int} {nm : Nat → Int64} {g g' : Nat → Option Nat}
/-- cells that the relation doesn't look at -/
theorem CRx.see (h : CRx x m pool S c C nm g) (hok : mOk m) (hx : x ≤ 0) (hm : ∀ q, seeM q → m' q = m q) (hc : ∀ q, seeC q → c' q = c q) (hr : ∀ q, InR (c' q)) (hg : ∀ t, t < 90 → g' (2 * t) = g (2 * t)) : CRx x m' pool S c' C nm g' := by
  obtain ⟨n, T, A, K, L, ⟨Z, e⟩, ⟨F, f⟩, G, R⟩ := h
  have k0 := hok.2.1
  have k1 := hok.2.2.1
  have k2 := hok.2.2.2.1
  have k3 := hok.2.2.2.2.1
  have M0 : m' 0 = m 0 := hm 0 (Or.inl (by omega))
  have M1 : m' 1 = m 1 := hm 1 (Or.inl (by omega))
  have M2 : m' 2 = m 2 := hm 2 (Or.inl (by omega))
  have M3 : m' 3 = m 3 := hm 3 (Or.inl (by omega))
  have mm : ∀ q, 10 ≤ q → q < 1608 → m' q = m q := fun q a b => hm q (Or.inr (Or.inl ⟨a, b⟩))
  refine ⟨?_, ?_, ?_, ?_, ?_, ⟨Z, ?_⟩, ⟨F, ?_⟩, ?_, hr, R.2⟩
  · unfold crN
    rw [M0, M1, M2, M3, hc 0 (Or.inl (by omega)), hc 1 (Or.inl (by omega)), hc 2 (Or.inl (by omega)), hc 8 (Or.inr (Or.inr (Or.inl (by omega)))), hc 9 (Or.inr (Or.inr (Or.inl (by omega))))]
    exact n
  · intro t ht
    rw [M1] at ht
    obtain ⟨t1, t2, t3, t4, t5⟩ := T t ht
    have cc : ∀ q, 32 ≤ q → q < 302 → c' q = c q := fun q a b => hc q (Or.inr (Or.inr (Or.inr (Or.inl ⟨a, b⟩))))
    rw [cc _ (by omega) (by omega), cc _ (by omega) (by omega), cc _ (by omega) (by omega), mm _ (by omega) (by omega), mm _ (by omega) (by omega), mm _ (by omega) (by omega)]
    refine ⟨t1, t2, t3, ?_, nmOk_c (mm _ (by omega) (by omega)) (fun j hj => mm _ (by omega) (by omega)) t5⟩
    rw [t4]
    exact (nmR_c (mm _ (by omega) (by omega)) t5.1.2 (fun j hj => mm _ (by omega) (by omega))).symm
  · intro a ha
    rw [M0] at ha
    have cc : ∀ q, 304 ≤ q → q < 484 → c' q = c q := fun q a b => hc q (Or.inr (Or.inr (Or.inr (Or.inr (Or.inl ⟨a, b⟩)))))
    rw [cc _ (by omega) (by omega), cc _ (by omega) (by omega), cc _ (by omega) (by omega), mm _ (by omega) (by omega), mm _ (by omega) (by omega), mm _ (by omega) (by omega)]
    exact A a ha
  · intro q hq
    rw [M3] at hq
    rw [hc _ (Or.inr (Or.inr (Or.inr (Or.inr (Or.inr ⟨q, Or.inl rfl⟩))))), hc _ (Or.inr (Or.inr (Or.inr (Or.inr (Or.inr ⟨q, Or.inr rfl⟩))))), hm _ (Or.inr (Or.inr (Or.inr ⟨q, Or.inl rfl⟩))), hm _ (Or.inr (Or.inr (Or.inr ⟨q, Or.inr rfl⟩)))]
    exact K q hq
  · refine ⟨fun k hk => by rw [mm _ (by omega) (by omega)]; exact L.1 k hk, fun k hk => ?_⟩
    rw [M2] at hk
    rw [mm _ (by omega) (by omega)]; exact L.2 k hk
  · exact crE_c e k1.2 (hc 10 (Or.inr (Or.inr (Or.inl (by omega))))) M0 M1 (hm 6 (Or.inl (by omega))) (fun t ht => by rw [mm _ (by omega) (by omega), mm _ (by omega) (by omega)]; exact ⟨Iff.rfl, rfl⟩) (fun a ha hb => by rw [mm _ (by omega) (by omega), mm _ (by omega) (by omega)]; exact ⟨Iff.rfl, rfl⟩)
  · have := f.2.1
    exact crF_c f (by omega) (hc 11 (Or.inr (Or.inr (Or.inl (by omega))))) (hc 12 (Or.inr (Or.inr (Or.inl (by omega))))) (hc 13 (Or.inr (Or.inr (Or.inl (by omega))))) (hc 4 (Or.inr (Or.inl rfl))) M2 (hm 4 (Or.inl (by omega))) (hm 5 (Or.inl (by omega))) (fun q a b => hm q (Or.inr (Or.inr (Or.inl a)))) rfl rfl rfl
  · intro t ht
    rw [M1] at ht
    rw [mm _ (by omega) (by omega), mm _ (by omega) (by omega), hg t (by omega)]
    exact G t ht
end CRc
end mg_9w
