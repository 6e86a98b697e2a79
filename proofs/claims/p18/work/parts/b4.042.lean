section mg_c4
section NT
variable {m pool c : Nat → Int} {S : Nat → Option mO} {C : Nat → Nat → Int} {nm : Nat → Int64} {g : Nat → Option Nat}
/-- one more task that is ready, its cells aside -/
theorem CR_newt {m' c' : Nat → Int} {g' : Nat → Option Nat} {T : Nat} (h : CR m pool S c C nm g) (hok : mOk m) (hT9 : T < 10) (hT3 : m 3 = (T : Int)) (h3 : m' 3 = m 3 + 1) (hm : ∀ q, ¬ q = 3 → ¬ q = 8 → (q < 1608 + 72 * T ∨ 1680 + 72 * T ≤ q) → m' q = m q) (m10 : m' (1610 + 72 * T) = 0) (m14 : m' (1614 + 72 * T) = 0) (h2 : c' 2 = c 2 + 1) (hc : ∀ q, ¬ q = 2 → (q < 488 + 9 * T ∨ 497 + 9 * T ≤ q) → c' q = c q) (c89 : c' (489 + 9 * T) = 0) (c96 : c' (496 + 9 * T) = 0) (hr : ∀ q, InR (c' q)) (hg : ∀ t, t < 90 → g' (2 * t) = g (2 * t)) : CR m' pool S c' C nm g' := by
  obtain ⟨n, T0, A, K, L, ⟨Z, e⟩, ⟨F, f⟩, G, R⟩ := h
  have k0 := hok.2.1
  have k1 := hok.2.2.1
  have k2 := hok.2.2.2.1
  have k3 := hok.2.2.2.2.1
  have fb := f.2.1
  have lo : ∀ q, ¬ q = 3 → ¬ q = 8 → q < 1608 → m' q = m q := fun q a b d => hm q a b (by omega)
  refine ⟨?_, crT_c T0 k1.2 (lo 1 (by omega) (by omega) (by omega)) (fun q a b => lo q (by omega) (by omega) (by omega)) (fun q a b => hc q (by omega) (by omega)) rfl, crS_c A k0.2 (lo 0 (by omega) (by omega) (by omega)) (fun q a b => lo q (by omega) (by omega) (by omega)) (fun q a b => hc q (by omega) (by omega)), fun q hq => ?_, crL_c L k2.2 (lo 2 (by omega) (by omega) (by omega)) (fun q a b => lo q (by omega) (by omega) (by omega)) (fun q a b => lo q (by omega) (by omega) (by omega)) rfl rfl, ⟨Z, ?_⟩, ⟨F, ?_⟩, crG_c G k1.2 (lo 1 (by omega) (by omega) (by omega)) (fun u hu => ⟨lo _ (by omega) (by omega) (by omega), lo _ (by omega) (by omega) (by omega)⟩) hg, hr, R.2⟩
  · unfold crN
    rw [h3, h2, lo 0 (by omega) (by omega) (by omega), lo 1 (by omega) (by omega) (by omega), lo 2 (by omega) (by omega) (by omega), hc 0 (by omega) (by omega), hc 1 (by omega) (by omega), hc 8 (by omega) (by omega), hc 9 (by omega) (by omega)]
    exact ⟨n.1, n.2.1, by rw [n.2.2.1], n.2.2.2⟩
  · rw [h3] at hq
    by_cases w : q = T
    · subst w; rw [m10, m14, c89, c96]; exact ⟨rfl, rfl⟩
    · rw [hm _ (by omega) (by omega) (by omega), hm _ (by omega) (by omega) (by omega), hc _ (by omega) (by omega), hc _ (by omega) (by omega)]
      exact K q (by omega)
  · exact crE_c e k1.2 (hc 10 (by omega) (by omega)) (lo 0 (by omega) (by omega) (by omega)) (lo 1 (by omega) (by omega) (by omega)) (lo 6 (by omega) (by omega) (by omega)) (fun u hu => by rw [lo _ (by omega) (by omega) (by omega), lo _ (by omega) (by omega) (by omega)]; exact ⟨Iff.rfl, rfl⟩) (fun u hu hb => by rw [lo _ (by omega) (by omega) (by omega), lo _ (by omega) (by omega) (by omega)]; exact ⟨Iff.rfl, rfl⟩)
  · exact crF_c f (by omega) (hc 11 (by omega) (by omega)) (hc 12 (by omega) (by omega)) (hc 13 (by omega) (by omega)) (hc 4 (by omega) (by omega)) (lo 2 (by omega) (by omega) (by omega)) (lo 4 (by omega) (by omega) (by omega)) (lo 5 (by omega) (by omega) (by omega)) (fun q a b => hm q (by omega) (by omega) (by omega)) rfl rfl rfl
end NT
end mg_c4
