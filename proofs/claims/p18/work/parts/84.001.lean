section mg_84
section PL
variable {m : Nat → Int} {N C : Nat}
theorem inE_one (hp : parI m C) (ho : ∀ t : Nat, t < N → m (259 + 14 * t) < C) {s t e e' : Nat} (ht : t < N) (h : entryP m N C s e) (h' : entryP m N C s e') (k : inE m t e) (k' : inE m t e') : e = e' := by
  have own := ho t ht
  -- a chain meets a child of s once, and never behind s
  have no : ∀ i c : Nat, c < C → m (19 + 4 * c) = s → itP m i s = some c → s < C → False := by
    intro i c hc hcs hi hs
    have := (itP_le hp i s c hs hi).1
    have := hp c hc
    omega
  have key : ∀ i j c c' : Nat, i ≤ j → c < C → c' < C → m (19 + 4 * c) = s → m (19 + 4 * c') = s → 0 ≤ m (259 + 14 * t) → itP m i (m (259 + 14 * t)).toNat = some c → itP m j (m (259 + 14 * t)).toNat = some c' → c = c' := by
    intro i j c c' hij hc hc' hcs hcs' h0 hi hj
    have ha := itP_add i (j - i) _ c hi
    rw [show i + (j - i) = j by omega, hj] at ha
    cases hk : j - i with
    | zero =>
      rw [hk] at ha
      have : some c' = some c := ha
      cases this; rfl
    | succ n =>
      rw [hk] at ha
      unfold itP at ha
      rw [if_pos (by omega), hcs] at ha
      have pc := hp c hc
      exact (no n c' hc' hcs' (by rw [ha]; rw [show ((s : Int)).toNat = s by omega]) (by omega)).elim
  rcases entP_c h with ⟨a1, a2, a3, a4⟩ | ⟨a1, a2, a3⟩ <;> rcases entP_c h' with ⟨b1, b2, b3, b4⟩ | ⟨b1, b2, b3⟩
  · rcases k with ⟨_, k⟩ | ⟨k, _⟩
    · rcases k' with ⟨_, k'⟩ | ⟨k', _⟩
      · omega
      · omega
    · omega
  · rcases k with ⟨_, k⟩ | ⟨k, _⟩
    · subst k
      rcases k' with ⟨k', _⟩ | ⟨_, k0, i, ki⟩
      · omega
      · rw [a4] at ki own
        exact (no i (e' - 100) (by omega) b3 (by rw [show ((s : Int)).toNat = s by omega] at ki; exact ki) (by omega)).elim
    · omega
  · rcases k' with ⟨_, k'⟩ | ⟨k', _⟩
    · subst k'
      rcases k with ⟨k, _⟩ | ⟨_, k0, i, ki⟩
      · omega
      · rw [b4] at ki own
        exact (no i (e - 100) (by omega) a3 (by rw [show ((s : Int)).toNat = s by omega] at ki; exact ki) (by omega)).elim
    · omega
  · rcases k with ⟨k, _⟩ | ⟨_, k0, i, ki⟩
    · omega
    · rcases k' with ⟨k', _⟩ | ⟨_, k0', j, kj⟩
      · omega
      · by_cases z : i ≤ j
        · have := key i j _ _ z (by omega) (by omega) a3 b3 k0 ki kj
          omega
        · have := key j i _ _ (by omega) (by omega) (by omega) b3 a3 k0 kj ki
          omega
end PL
end mg_84
