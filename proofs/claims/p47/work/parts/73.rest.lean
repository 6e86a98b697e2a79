/-! ===== the reference: rows copied, THE LOG laid, names compared ===== -/
def cpR (rw : Nat → Int) (a b lo hi : Nat) : Nat → Int := fun q => if b + lo ≤ q ∧ q < b + hi then rw (a + (q - b)) else rw q
theorem cpR_0 (rw : Nat → Int) (a b k : Nat) : cpR rw a b k k = rw := by
  funext q; unfold cpR; rw [if_neg (by omega)]
theorem cpR_up (rw : Nat → Int) (a b k : Nat) : updI (cpR rw a b 0 k) (b + k) (rw (a + k)) = cpR rw a b 0 (k + 1) := by
  funext q
  unfold updI cpR
  by_cases h : q = b + k
  · subst h; rw [if_pos rfl, if_pos (by omega)]; congr 1; omega
  · rw [if_neg h]
    by_cases h2 : b + 0 ≤ q ∧ q < b + k
    · rw [if_pos h2, if_pos (by omega)]
    · rw [if_neg h2, if_neg (by omega)]
theorem cpR_dn (rw : Nat → Int) (a b k n : Nat) (hk : k < n) : updI (cpR rw a b (k + 1) n) (b + k) (rw (a + k)) = cpR rw a b k n := by
  funext q
  unfold updI cpR
  by_cases h : q = b + k
  · subst h; rw [if_pos rfl, if_pos (by omega)]; congr 1; omega
  · rw [if_neg h]
    by_cases h2 : b + (k + 1) ≤ q ∧ q < b + n
    · rw [if_pos h2, if_pos (by omega)]
    · rw [if_neg h2, if_neg (by omega)]
theorem cpR_n {rw : Nat → Int} {a b lo hi q : Nat} (h : ¬ (b + lo ≤ q ∧ q < b + hi)) : cpR rw a b lo hi q = rw q := if_neg h
def copyV (rwd : Nat → Int) (r i o j n : Int) : Int := if (0 ≤ r ∧ r ≤ 3) ∧ (0 ≤ o ∧ o ≤ 3) then (if rwd r.toNat < 0 ∨ rwd o.toNat < 0 then -11 else (if n < 0 ∨ i < 0 ∨ j < 0 ∨ rwd r.toNat - i < n ∨ rwd o.toNat - j < n then -13 else n)) else -1
abbrev copyDo (rwd : Nat → Int) (r i o j n : Int) : Prop := ((0 ≤ r ∧ r ≤ 3) ∧ (0 ≤ o ∧ o ≤ 3)) ∧ (0 ≤ rwd r.toNat ∧ 0 ≤ rwd o.toNat) ∧ 0 ≤ n ∧ 0 ≤ i ∧ 0 ≤ j ∧ n ≤ rwd r.toNat - i ∧ n ≤ rwd o.toNat - j
def layR (rw m : Nat → Int) (b k : Nat) : Nat → Int := fun q => if b ≤ q ∧ q < b + k then m (1518 + (q - b)) else rw q
theorem layR_0 (rw m : Nat → Int) (b : Nat) : layR rw m b 0 = rw := by
  funext q; unfold layR; rw [if_neg (by omega)]
theorem layR_s (rw m : Nat → Int) (b k : Nat) : updI (layR rw m b k) (b + k) (m (1518 + k)) = layR rw m b (k + 1) := by
  funext q
  unfold updI layR
  by_cases h : q = b + k
  · subst h; rw [if_pos rfl, if_pos (by omega)]; congr 1; omega
  · rw [if_neg h]
    by_cases h2 : b ≤ q ∧ q < b + k
    · rw [if_pos h2, if_pos (by omega)]
    · rw [if_neg h2, if_neg (by omega)]
/-- how many numbers of THE LOG find a place -/
def layN (L rd i : Int) : Nat := if i < 0 then 0 else (if L ≤ rd - i then L.toNat else (rd - i).toNat)
def layV (m rwd : Nat → Int) (r i : Int) : Int := if wrongV rwd r = 0 then (if m 2 ≤ 0 ∨ (0 ≤ i ∧ m 2 ≤ rwd r.toNat - i) then m 2 else -13) else wrongV rwd r
/-- how the name of a thing stands to bytes of a row -/
def agL (m rc : Nat → Int) (t fr : Nat) (own many : Int) : Nat → Nat → Int
  | 0, _ => own - many
  | n + 1, k => if m (265 + 14 * t + k) - rc (fr + k) = 0 then agL m rc t fr own many n (k + 1) else m (265 + 14 * t + k) - rc (fr + k)
def agN (own many : Int) : Nat := if own ≤ many then own.toNat else many.toNat
def agV (m rc : Nat → Int) (t fr : Nat) (many : Int) : Int := agL m rc t fr (m (261 + 14 * t)) many (agN (m (261 + 14 * t)) many) 0
def byteOk (f : Nat → Int) : Prop := ∀ q, -200 ≤ f q ∧ f q ≤ 200
/-- how the names of two things stand -/
def agT (m : Nat → Int) (t o : Nat) : Int := agV m m t (265 + 14 * o) (m (261 + 14 * o))
theorem agL_r {m rc : Nat → Int} {t fr : Nat} {own many : Int} (h1 : -200 ≤ own - many ∧ own - many ≤ 200) (hn : ∀ k : Nat, k < 7 → -200 ≤ m (265 + 14 * t + k) ∧ m (265 + 14 * t + k) ≤ 200) (hc : ∀ k : Nat, (k : Int) < many → -200 ≤ rc (fr + k) ∧ rc (fr + k) ≤ 200) : ∀ n k : Nat, k + n ≤ 7 → (k : Int) + n ≤ many → -400 ≤ agL m rc t fr own many n k ∧ agL m rc t fr own many n k ≤ 400
  | 0, k, _, _ => by unfold agL; omega
  | n + 1, k, g, g2 => by
    unfold agL
    have q1 := hn k (by omega)
    have q2 := hc k (by omega)
    split
    · exact agL_r h1 hn hc n (k + 1) (by omega) (by omega)
    · omega
theorem agV_r {m rc : Nat → Int} {t fr : Nat} {many : Int} (h0 : 0 ≤ many ∧ many ≤ 120) (h7 : 0 ≤ m (261 + 14 * t) ∧ m (261 + 14 * t) ≤ 7) (hn : ∀ k : Nat, k < 7 → -200 ≤ m (265 + 14 * t + k) ∧ m (265 + 14 * t + k) ≤ 200) (hc : ∀ k : Nat, (k : Int) < many → -200 ≤ rc (fr + k) ∧ rc (fr + k) ≤ 200) : InR (agV m rc t fr many) := by
  have hag : (agN (m (261 + 14 * t)) many : Int) ≤ m (261 + 14 * t) ∧ (agN (m (261 + 14 * t)) many : Int) ≤ many := by unfold agN; split <;> omega
  have := agL_r (m := m) (rc := rc) (t := t) (fr := fr) (own := m (261 + 14 * t)) (many := many) (by omega) hn hc (agN (m (261 + 14 * t)) many) 0 (by omega) (by omega)
  unfold agV
  exact ⟨by omega, by omega⟩
theorem agT_r {m : Nat → Int} {N t o : Nat} (hnm : ∀ t : Nat, t < N → (0 ≤ m (261 + 14 * t) ∧ m (261 + 14 * t) ≤ 7) ∧ ∀ k : Nat, k < 7 → -200 ≤ m (265 + 14 * t + k) ∧ m (265 + 14 * t + k) ≤ 200) (ht : t < N) (ho : o < N) : InR (agT m t o) := by
  obtain ⟨g1, g2⟩ := hnm t ht
  obtain ⟨g3, g4⟩ := hnm o ho
  exact agV_r ⟨g3.1, by omega⟩ g1 g2 (fun k hk => g4 k (by omega))
def frL (m tape : Nat → Int) (b : Int) : Nat → Nat → Int → Int
  | 0, _, f => f
  | n + 1, t, f => frL m tape b n (t + 1) (if heldB m t = true ∧ 0 ≤ agV m tape t 0 b ∧ (f < 0 ∨ agT m t f.toNat < 0) then (t : Int) else f)
def nmB (m : Nat → Int) (t o : Nat) : Bool := heldB m o && decide (agT m o t < 0)
def bnL (m : Nat → Int) (N : Nat) (i : Int) : Nat → Nat → Int
  | 0, _ => -1
  | n + 1, t => if heldB m t = true ∧ cnt (nmB m t) N = i then (t : Int) else bnL m N i n (t + 1)