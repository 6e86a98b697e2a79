section mg_b9
section EV
variable {m pool c : Nat → Int} {S : Nat → Option mO} {C : Nat → Nat → Int} {nm : Nat → Int64} {g : Nat → Option Nat} {a : Int} {Z N K : Nat}
theorem ent_of (h : CR m pool S c C nm g) (hok : mOk m) (hs : ScI m) (hnc : NC m) (hst : ∀ t : Nat, (t : Int) < m 1 → 0 ≤ m (258 + 14 * t) ∧ m (258 + 14 * t) ≤ 2) (hZ : c 10 = (Z : Int)) (hN : m 1 = (N : Int)) (hK : m 0 = (K : Int)) : entE m c (C 2) N K Z a := by
  have k0 := hok.2.1
  have k1 := hok.2.2.1
  obtain ⟨n0, T, A, -, -, ⟨Z', e0⟩, -⟩ := h
  obtain ⟨e1, e2, e3, e4, e5, e6⟩ := e0
  obtain rfl : Z' = Z := by omega
  have ot : ∀ t : Nat, (t : Int) < m 1 → ownF c (t : Int) = m (259 + 14 * t) := fun t ht => by rw [ownF_t (by rw [n0.1]; exact ht) (by omega), (T t ht).2.1]
  have os : ∀ s : Nat, (s : Int) < m 0 → ownF c (100 + (s : Int)) = m (19 + 4 * s) := fun s hs' => by rw [ownF_s (by rw [n0.2.1]; exact hs') (by omega), (A s hs').2.1]
  refine ⟨fun j hj => ?_, e4, fun j hj hb => ?_, fun e he => ?_, fun j hj => e6 _ (e3 j hj)⟩
  · rcases e3 j hj with ⟨t, x, y, -⟩ | ⟨s, x, -, y, -⟩ <;> omega
  · have hb : ownF c (C 2 j) = a := of_decide_eq_true hb
    rcases e3 j hj with ⟨t, x, y, z⟩ | ⟨s, x, z1, y, z2⟩
    · rw [x, ot t y] at hb
      rw [x, show ((t : Int)).toNat = t by omega]
      unfold entryP
      rw [if_pos (by omega)]
      have r := hst t y
      have q := hnc t y
      exact ⟨by omega, by omega, hb⟩
    · rw [x, os s y] at hb
      rw [x, show (100 + (s : Int)).toNat = 100 + s by omega]
      unfold entryP
      rw [if_neg (by omega), show 100 + s - 100 = s by omega]
      exact ⟨by omega, by omega, z2, hb⟩
  · unfold entryP at he
    by_cases w : e < 100
    · rw [if_pos w] at he
      have ht : (e : Int) < m 1 := by omega
      obtain ⟨j, x, y⟩ := e5 (e : Int) (Or.inl ⟨e, rfl, ht, by omega⟩)
      exact ⟨j, x, y, decide_eq_true (by rw [y, ot e ht]; exact he.2.2)⟩
    · rw [if_neg w] at he
      obtain ⟨s, rfl⟩ : ∃ s, e = 100 + s := ⟨e - 100, by omega⟩
      rw [show 100 + s - 100 = s by omega] at he
      have hs' : (s : Int) < m 0 := by omega
      obtain ⟨j, x, y⟩ := e5 (100 + (s : Int)) (Or.inr ⟨s, rfl, by omega, hs', he.2.2.1⟩)
      exact ⟨j, x, by omega, decide_eq_true (by rw [y, os s hs']; exact he.2.2.2)⟩
end EV
end mg_b9
