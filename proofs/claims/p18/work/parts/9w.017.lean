section mg_9z
section CHG3
variable {x : Int} {m pool c : Nat → Int} {S : Nat → Option mO} {C : Nat → Nat → Int} {nm : Nat → Int64} {g : Nat → Option Nat}
/-- a call begins that gathers -/
theorem CR_call (h : CRx 0 m pool S c C nm g) (hok : mOk m) : CRx 0 (updI m 5 0) pool S (updI c 4 (c 11)) C nm g := by
  obtain ⟨n, T, A, K, L, ⟨Z, e⟩, ⟨F, f⟩, G, R⟩ := h
  have k0 := hok.2.1
  have k1 := hok.2.2.1
  have k2 := hok.2.2.2.1
  have k3 := hok.2.2.2.2.1
  have um : ∀ q, ¬ q = 5 → updI m 5 0 q = m q := fun q w => updI_n w
  have uc : ∀ q, ¬ q = 4 → updI c 4 (c 11) q = c q := fun q w => updI_n w
  refine ⟨?_, ?_, ?_, ?_, ?_, ⟨Z, ?_⟩, ⟨F, ?_⟩, ?_, updI_r R.1 (R.1 11), R.2⟩
  · unfold crN
    rw [um 0 (by omega), um 1 (by omega), um 2 (by omega), um 3 (by omega), uc 0 (by omega), uc 1 (by omega), uc 2 (by omega), uc 8 (by omega), uc 9 (by omega)]
    exact n
  · exact crT_c T k1.2 (um 1 (by omega)) (fun q w y => um q (by omega)) (fun q w y => uc q (by omega)) rfl
  · exact crS_c A k0.2 (um 0 (by omega)) (fun q w y => um q (by omega)) (fun q w y => uc q (by omega))
  · exact crK_c K (um 3 (by omega)) (fun q w y => um q (by omega)) (fun q w => uc q (by omega)) k3.2
  · exact crL_c L k2.2 (um 2 (by omega)) (fun q w y => um q (by omega)) (fun q w y => um q (by omega)) rfl rfl
  · exact crE_c e k1.2 (uc 10 (by omega)) (um 0 (by omega)) (um 1 (by omega)) (um 6 (by omega)) (fun u hu => by rw [um _ (by omega), um _ (by omega)]; exact ⟨Iff.rfl, rfl⟩) (fun u hu hb => by rw [um _ (by omega), um _ (by omega)]; exact ⟨Iff.rfl, rfl⟩)
  · obtain ⟨f1, f2, f3, f4, f5, f6, f7⟩ := f
    unfold crF
    rw [uc 11 (by omega), uc 12 (by omega), uc 13 (by omega), updI_s, updI_s, um 2 (by omega), um 4 (by omega), f1.1]
    refine ⟨⟨rfl, f1.2⟩, f2, ⟨by omega, Int.le_refl _⟩, f4, fun j a b => ?_, ?_, fun j a b => by omega⟩
    · rw [um _ (by omega), um _ (by omega), um _ (by omega)]; exact f5 j a b
    · rw [Int.toNat_natCast, gbB_0]
  · exact crG_c G k1.2 (um 1 (by omega)) (fun u hu => ⟨um _ (by omega), um _ (by omega)⟩) (fun _ _ => rfl)
end CHG3
end mg_9z
