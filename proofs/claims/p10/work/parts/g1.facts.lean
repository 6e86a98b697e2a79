/-! ===== what the contracts ask of a state ===== -/
def FX (m c : Nat → Int) (C : Nat → Nat → Int) (N K T Z F : Nat) : Prop :=
  (m 1 = (N : Int) ∧ c 0 = (N : Int) ∧ N ≤ 90) ∧ (m 0 = (K : Int) ∧ c 1 = (K : Int) ∧ 1 ≤ K ∧ K ≤ 60) ∧ (m 3 = (T : Int) ∧ c 2 = (T : Int) ∧ T ≤ 10) ∧ (c 10 = (Z : Int) ∧ Z < 150) ∧ ((c 11 = (F : Int) ∧ c 12 = (F : Int) ∧ c 13 = (F : Int)) ∧ F ≤ 90 ∧ (0 ≤ c 4 ∧ c 4 ≤ (F : Int))) ∧
  (oOk c ∧ parR m c ∧ parOk m K ∧ ownOk m N K) ∧ (c 8 = 8 ∧ (c 9 = m 2 ∧ 0 ≤ m 2 ∧ m 2 ≤ 90)) ∧ ((∀ q, InR (c q)) ∧ ∀ k q, InR (C k q)) ∧
  (∀ t : Nat, (t : Int) < m 1 → (0 ≤ m (258 + 14 * t) ∧ m (258 + 14 * t) ≤ 2) ∧ (0 ≤ m (259 + 14 * t) ∧ m (259 + 14 * t) < m 0)) ∧ (∀ t : Nat, t < T → -99 ≤ m (1609 + 72 * t) ∧ m (1609 + 72 * t) ≤ 99)
section FXS
variable {m pool c : Nat → Int} {S : Nat → Option mO} {C : Nat → Nat → Int} {nm : Nat → Int64} {g : Nat → Option Nat} {B T0 : Int}
theorem own_r (h0 : c 0 = m 1) (h1 : c 1 = m 0) (hm0 : m 0 ≤ 60) (hcS : crS m c) (hcT : crT m c nm) (hs : ScI m) (ht : ∀ t : Nat, (t : Int) < m 1 → 0 ≤ m (259 + 14 * t) ∧ m (259 + 14 * t) < m 0) : oOk c := by
  intro i
  unfold ownF
  by_cases z : 100 ≤ i
  · rw [if_pos z]
    by_cases w : inW c 1 60 (i - 100)
    · rw [if_pos w]
      obtain ⟨w1, w2, w3⟩ := w
      have e := (hcS (i - 100).toNat (by omega)).2.1
      rw [e]
      by_cases y : (i - 100).toNat = 0
      · rw [y]; have : m (19 + 4 * 0) = -5 := hs.1; omega
      · have := ((hs.2.2 (i - 100).toNat (by omega)).2 (by omega)).1
        omega
    · rw [if_neg w]; decide
  · rw [if_neg z]
    by_cases w : inW c 0 90 i
    · rw [if_pos w]
      obtain ⟨w1, w2, w3⟩ := w
      have e := (hcT i.toNat (by omega)).2.1
      rw [e]
      have := ht i.toNat (by omega)
      omega
    · rw [if_neg w]; decide
theorem fx_of (hT : CTR m pool S c C nm g) (hA : All m pool B T0) : ∃ N K T Z F : Nat, FX m c C N K T Z F := by
  obtain ⟨⟨hI, hs, hnc, hns⟩, ⟨hT0, hTk⟩, -, -⟩ := hA
  obtain ⟨hok, ⟨i1, i2, i3⟩, hth, -, -, -⟩ := hI
  obtain ⟨h, hTK⟩ := hT
  obtain ⟨n0, n1, n2, n8, n9⟩ := id h.1
  have hcT := h.2.1
  have hcS := h.2.2.1
  obtain ⟨Z, hE⟩ := id h.2.2.2.2.2.1
  obtain ⟨F, f0, f1, f2, f3, f4, f5, -⟩ := CR.fa h hok
  obtain ⟨-, o0, o1, o2, o3, -⟩ := id hok
  have hR : crR c C := h.2.2.2.2.2.2.2.2
  have z1 := hE.1
  have z2 := hE.2.1
  have ht2 : ∀ t : Nat, (t : Int) < m 1 → (0 ≤ m (258 + 14 * t) ∧ m (258 + 14 * t) ≤ 2) ∧ (0 ≤ m (259 + 14 * t) ∧ m (259 + 14 * t) < m 0) := fun t ht => ⟨(hth t ht).1, (hth t ht).2.1⟩
  refine ⟨(m 1).toNat, (m 0).toNat, (m 3).toNat, Z, F, ⟨by omega, by omega, by omega⟩, ⟨by omega, by omega, by omega, by omega⟩, ⟨by omega, by omega, by omega⟩, ⟨z1, by omega⟩, ⟨⟨f1, f2, f3⟩, f4, f5⟩, ⟨own_r n0 n1 o0.2 hcS hcT hs (fun t ht => (ht2 t ht).2), par_of n1 o0.2 hcS hs, ?_, ?_⟩, ⟨n8, n9, o2.1, o2.2⟩, ⟨hR.1, hR.2⟩, ht2, fun t ht => (hTk t (by omega)).1.1⟩
  · intro k k0 k1
    obtain ⟨a, rfl⟩ : ∃ a : Nat, k = a := ⟨k.toNat, by omega⟩
    rw [show ((19 : Int) + 4 * (a : Int)).toNat = 19 + 4 * a by omega]
    by_cases y : a = 0
    · subst y; have : m (19 + 4 * 0) = -5 := hs.1; omega
    · have := ((hs.2.2 a (by omega)).2 (by omega)).1
      omega
  · intro t ht
    have := (ht2 t (by omega)).2
    omega
end FXS
