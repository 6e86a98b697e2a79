section mg_9x
section CHG
variable {x : Int} {m pool c : Nat → Int} {S : Nat → Option mO} {C : Nat → Nat → Int} {nm : Nat → Int64} {g : Nat → Option Nat}
/-- something comes to a counter -/
theorem CR_count (h : CRx x m pool S c C nm g) (hok : mOk m) (hx : x ≤ 0) {k : Nat} {v : Int} (hk : k < 8) (hv : InR v) : CRx x (updI m (10 + k) v) pool S c (updC C 0 (updI (C 0) k v)) nm g := by
  obtain ⟨n, T, A, K, L, ⟨Z, e⟩, ⟨F, f⟩, G, R⟩ := h
  have k0 := hok.2.1
  have k1 := hok.2.2.1
  have k2 := hok.2.2.2.1
  have k3 := hok.2.2.2.2.1
  have um : ∀ q, ¬ q = 10 + k → updI m (10 + k) v q = m q := fun q w => updI_n w
  have C2 : updC C 0 (updI (C 0) k v) 2 = C 2 := updC_n (by decide)
  refine ⟨?_, ?_, ?_, ?_, ?_, ⟨Z, ?_⟩, ⟨F, ?_⟩, ?_, R.1, updC_r R.2 (updI_r (R.2 0) hv)⟩
  · unfold crN
    rw [um 0 (by omega), um 1 (by omega), um 2 (by omega), um 3 (by omega)]
    exact n
  · exact crT_c T k1.2 (um 1 (by omega)) (fun q w y => um q (by omega)) (fun _ _ _ => rfl) rfl
  · exact crS_c A k0.2 (um 0 (by omega)) (fun q w y => um q (by omega)) (fun _ _ _ => rfl)
  · exact crK_c K (um 3 (by omega)) (fun q w y => um q (by omega)) (fun _ _ => rfl) k3.2
  · refine ⟨fun j hj => ?_, fun j hj => ?_⟩
    · rw [updC_s]
      by_cases w : j = k
      · subst w; rw [updI_s, updI_s]
      · rw [updI_n w, um _ (by omega)]; exact L.1 j hj
    · rw [um 2 (by omega)] at hj
      rw [updC_n (by decide), um _ (by omega)]; exact L.2 j hj
  · rw [C2]
    exact crE_c e k1.2 rfl (um 0 (by omega)) (um 1 (by omega)) (um 6 (by omega)) (fun u hu => by rw [um _ (by omega), um _ (by omega)]; exact ⟨Iff.rfl, rfl⟩) (fun u hu hb => by rw [um _ (by omega), um _ (by omega)]; exact ⟨Iff.rfl, rfl⟩)
  · have := f.2.1
    exact crF_c f (by omega) rfl rfl rfl rfl (um 2 (by omega)) (um 4 (by omega)) (um 5 (by omega)) (fun q w y => um q (by omega)) (updC_n (by decide)) (updC_n (by decide)) (updC_n (by decide))
  · exact crG_c G k1.2 (um 1 (by omega)) (fun u hu => ⟨um _ (by omega), um _ (by omega)⟩) (fun _ _ => rfl)
end CHG
end mg_9x
