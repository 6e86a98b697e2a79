section mg_a5
section SH
variable {G : mG} {l : Launch} {r : Nat} {b : Int} {pool : Nat → Int} {S : Nat → Option mO} {h0 : mH} {n : Nat}
end SH
end mg_a5
section mg_a6
/-! ===== a shutting, whole ===== -/
section SH2
variable {G : mG} {l : Launch} {r : Nat} {b : Int} {pool : Nat → Int} {S : Nat → Option mO} {h0 : mH} {n : Nat}
theorem sci_b {m : Nat → Int} (hsc : ScI m) (h60 : m 0 ≤ 60) {s : Nat} (ho : m (18 + 4 * s) = 0) : ScI (updI m (18 + 4 * s) 1) := by
  have e : ∀ q, ¬ q = 18 + 4 * s → updI m (18 + 4 * s) 1 q = m q := fun q a => updI_n a
  obtain ⟨s1, s2, s3⟩ := hsc
  refine ⟨by rw [e _ (by omega)]; exact s1, ?_, fun c hcc => ?_⟩
  · by_cases z : s = 0
    · subst z; rw [updI_s]; decide
    · rw [e _ (by omega)]; exact s2
  · rw [e 0 (by omega)] at hcc
    obtain ⟨a, b⟩ := s3 c hcc
    rw [e (19 + 4 * c) (by omega), e (20 + 4 * c) (by omega), e 6 (by omega)]
    refine ⟨?_, fun h1 => ?_⟩
    · by_cases z : c = s
      · subst z; rw [updI_s]; decide
      · rw [e _ (by omega)]; exact a
    · obtain ⟨b1, b2, b3⟩ := b h1
      refine ⟨b1, b2, fun z => ?_⟩
      by_cases g : (m (19 + 4 * c)).toNat = s
      · rw [g, updI_s]; decide
      · rw [e _ (by omega)]
        refine b3 ?_
        by_cases g2 : c = s
        · subst g2; rw [ho]; decide
        · rw [e _ (by omega)] at z; exact z
end SH2
end mg_a6
