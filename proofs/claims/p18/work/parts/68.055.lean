section mg_73
theorem agL_r {m rc : Nat → Int} {t fr : Nat} {own many : Int} (h1 : -200 ≤ own - many ∧ own - many ≤ 200) (hn : ∀ k : Nat, k < 7 → -200 ≤ m (265 + 14 * t + k) ∧ m (265 + 14 * t + k) ≤ 200) (hc : ∀ k : Nat, (k : Int) < many → -200 ≤ rc (fr + k) ∧ rc (fr + k) ≤ 200) : ∀ n k : Nat, k + n ≤ 7 → (k : Int) + n ≤ many → -400 ≤ agL m rc t fr own many n k ∧ agL m rc t fr own many n k ≤ 400
  | 0, k, _, _ => by unfold agL; omega
  | n + 1, k, g, g2 => by
    unfold agL
    have q1 := hn k (by omega)
    have q2 := hc k (by omega)
    split
    · exact agL_r h1 hn hc n (k + 1) (by omega) (by omega)
    · omega
theorem agV_r {m rc : Nat → Int} {t fr : Nat} {many : Int} (h0 : 0 ≤ many ∧ many ≤ 120) (h7 : 0 ≤ m (261 + 14 * t) ∧ m (261 + 14 * t) ≤ 7) (hn : ∀ k : Nat, k < 7 → -200 ≤ m (265 + 14 * t + k) ∧ m (265 + 14 * t + k) ≤ 200) (hc : ∀ k : Nat, (k : Int) < many → -200 ≤ rc (fr + k) ∧ rc (fr + k) ≤ 200) : InR (agV m rc t fr many) := by
  have hag : (agN (m (261 + 14 * t)) many : Int) ≤ m (261 + 14 * t) ∧ (agN (m (261 + 14 * t)) many : Int) ≤ many := by unfold agN; split <;> omega
  have := agL_r (m := m) (rc := rc) (t := t) (fr := fr) (own := m (261 + 14 * t)) (many := many) (by omega) hn hc (agN (m (261 + 14 * t)) many) 0 (by omega) (by omega)
  unfold agV
  exact ⟨by omega, by omega⟩
theorem agT_r {m : Nat → Int} {N t o : Nat} (hnm : ∀ t : Nat, t < N → (0 ≤ m (261 + 14 * t) ∧ m (261 + 14 * t) ≤ 7) ∧ ∀ k : Nat, k < 7 → -200 ≤ m (265 + 14 * t + k) ∧ m (265 + 14 * t + k) ≤ 200) (ht : t < N) (ho : o < N) : InR (agT m t o) := by
  obtain ⟨g1, g2⟩ := hnm t ht
  obtain ⟨g3, g4⟩ := hnm o ho
  exact agV_r ⟨g3.1, by omega⟩ g1 g2 (fun k hk => g4 k (by omega))
def frL (m tape : Nat → Int) (b : Int) : Nat → Nat → Int → Int
  | 0, _, f => f
  | n + 1, t, f => frL m tape b n (t + 1) (if heldB m t = true ∧ 0 ≤ agV m tape t 0 b ∧ (f < 0 ∨ agT m t f.toNat < 0) then (t : Int) else f)
end mg_73
