/-! ===== closings, shuts and turns come to one end ===== -/
def DC (c1 c2 : (Nat → Int) → Nat → (Nat → Int) → Prop) : Prop := ∀ m t a b, c1 m t a → c2 m t b → a = b
def DS (s1 s2 : (Nat → Int) → Int → (Nat → Int) → Prop) : Prop := ∀ m s a b, s1 m s a → s2 m s b → a = b
section M2
variable {pool m a b : Nat → Int} {c1 c2 : (Nat → Int) → Nat → (Nat → Int) → Prop} {s1 s2 : (Nat → Int) → Int → (Nat → Int) → Prop}
theorem naL_st : ∀ (n k j : Nat) (v : Int), stopsBy pool n k → naL pool (n + 1 + j) k v = naL pool (n + 1) k v
  | 0, k, j, v, h => by
    have h : ¬ (48 ≤ pool k ∧ pool k ≤ 57) := h
    rw [show 0 + 1 + j = j + 1 by omega]
    show (if 48 ≤ pool k ∧ pool k ≤ 57 then naL pool j (k + 1) (10 * v + pool k - 48) else v) = (if 48 ≤ pool k ∧ pool k ≤ 57 then naL pool 0 (k + 1) (10 * v + pool k - 48) else v)
    rw [if_neg h, if_neg h]
  | n + 1, k, j, v, h => by
    rw [show n + 1 + 1 + j = (n + 1 + j) + 1 by omega]
    show (if 48 ≤ pool k ∧ pool k ≤ 57 then naL pool (n + 1 + j) (k + 1) (10 * v + pool k - 48) else v) = (if 48 ≤ pool k ∧ pool k ≤ 57 then naL pool (n + 1) (k + 1) (10 * v + pool k - 48) else v)
    by_cases c : 48 ≤ pool k ∧ pool k ≤ 57
    · rw [if_pos c, if_pos c]; exact naL_st n (k + 1) j _ (h c)
    · rw [if_neg c, if_neg c]
theorem naL_eq {n n' k : Nat} {v : Int} (h : stopsBy pool n k) (h' : stopsBy pool n' k) : naL pool (n + 1) k v = naL pool (n' + 1) k v := by
  rcases Nat.le_total n n' with z | z
  · obtain ⟨j, rfl⟩ := Nat.le.dest z
    rw [show n + j + 1 = n + 1 + j by omega, naL_st n k j v h]
  · obtain ⟨j, rfl⟩ := Nat.le.dest z
    rw [show n' + j + 1 = n' + 1 + j by omega, naL_st n' k j v h']
theorem numAt_eq {n n' p : Nat} (h : digR pool p n) (h' : digR pool p n') : numAt pool n p = numAt pool n' p := by
  have h := h.2
  have h' := h'.2
  unfold numAt
  split
  · rename_i c
    rw [if_pos c] at h h'
    rw [naL_eq h h']
  · rename_i c
    rw [if_neg c] at h h'
    exact naL_eq h h'
theorem jbrL_st : ∀ (n k j : Nat) (u : Int), brStop pool n k u → brL pool (n + 1 + j) k u = brL pool (n + 1) k u
  | 0, k, j, u, h => by
    have h : ¬ 0 < u := h
    rw [show 0 + 1 + j = j + 1 by omega]
    show (if 0 < u then brL pool j (k + 1) (u + brk (pool k)) else k) = (if 0 < u then brL pool 0 (k + 1) (u + brk (pool k)) else k)
    rw [if_neg h, if_neg h]
  | n + 1, k, j, u, h => by
    rw [show n + 1 + 1 + j = (n + 1 + j) + 1 by omega]
    show (if 0 < u then brL pool (n + 1 + j) (k + 1) (u + brk (pool k)) else k) = (if 0 < u then brL pool (n + 1) (k + 1) (u + brk (pool k)) else k)
    by_cases c : 0 < u
    · rw [if_pos c, if_pos c]; exact jbrL_st n (k + 1) j _ (h c)
    · rw [if_neg c, if_neg c]
theorem brL_eq {n n' k : Nat} {u : Int} (h : brStop pool n k u) (h' : brStop pool n' k u) : brL pool (n + 1) k u = brL pool (n' + 1) k u := by
  rcases Nat.le_total n n' with z | z
  · obtain ⟨j, rfl⟩ := Nat.le.dest z
    rw [show n + j + 1 = n + 1 + j by omega, jbrL_st n k j u h]
  · obtain ⟨j, rfl⟩ := Nat.le.dest z
    rw [show n' + j + 1 = n' + 1 + j by omega, jbrL_st n' k j u h']
theorem ftF_eq {n n' e : Nat} (h : pool e = 123 → brStop pool n (e + 1) 1) (h' : pool e = 123 → brStop pool n' (e + 1) 1) : ftF pool n e = ftF pool n' e := by
  unfold ftF
  split
  · rename_i c
    rw [brL_eq (h c) (h' c)]
  · rfl
theorem stp_det (hc : DC c1 c2) {p : Nat} {s f f' : Int} (r : stpR pool c1 m p s f a) (r' : stpR pool c2 m p s f' b) : f = f' ∧ a = b := by
  obtain ⟨-, -, -, r⟩ := r
  obtain ⟨-, -, -, r'⟩ := r'
  rcases r with ⟨p0, -, q1, n, d, q2⟩ | ⟨p0, q2, n, d, q1⟩ | ⟨p0, n, -, d, q1, q2⟩ | ⟨p0, q⟩ | ⟨p0, n, d, -, q⟩ | ⟨p0, -, q1, q2⟩ | ⟨p0, q1, q2⟩
  · rcases r' with ⟨p1, -, q1', n', d', q2'⟩ | ⟨p1, q2', n', d', q1'⟩ | ⟨p1, n', -, d', q1', q2'⟩ | ⟨p1, q'⟩ | ⟨p1, n', d', -, q'⟩ | ⟨p1, -, q1', q2'⟩ | ⟨p1, q1', q2'⟩
    · rw [q1, q1', q2, q2', numAt_eq d d']; exact ⟨rfl, rfl⟩
    all_goals (exfalso; omega)
  · rcases r' with ⟨p1, -, q1', n', d', q2'⟩ | ⟨p1, q2', n', d', q1'⟩ | ⟨p1, n', -, d', q1', q2'⟩ | ⟨p1, q'⟩ | ⟨p1, n', d', -, q'⟩ | ⟨p1, -, q1', q2'⟩ | ⟨p1, q1', q2'⟩
    · exfalso; omega
    · rw [q1, q1', q2, q2', numAt_eq d d']; exact ⟨rfl, rfl⟩
    all_goals (exfalso; omega)
  · rcases r' with ⟨p1, -, q1', n', d', q2'⟩ | ⟨p1, q2', n', d', q1'⟩ | ⟨p1, n', -, d', q1', q2'⟩ | ⟨p1, q'⟩ | ⟨p1, n', d', -, q'⟩ | ⟨p1, -, q1', q2'⟩ | ⟨p1, q1', q2'⟩
    · exfalso; omega
    · exfalso; omega
    · rw [q1, q1', q2, q2']
      refine ⟨rfl, ?_⟩
      unfold takenM
      rw [ftF_eq d d']
    all_goals (exfalso; omega)
  · rcases r' with ⟨p1, -, q1', n', d', q2'⟩ | ⟨p1, q2', n', d', q1'⟩ | ⟨p1, n', -, d', q1', q2'⟩ | ⟨p1, q'⟩ | ⟨p1, n', d', -, q'⟩ | ⟨p1, -, q1', q2'⟩ | ⟨p1, q1', q2'⟩
    · exfalso; omega
    · exfalso; omega
    · exfalso; omega
    · rcases q with ⟨z, e, e2⟩ | ⟨z, e, e2⟩ <;> rcases q' with ⟨z', e', e2'⟩ | ⟨z', e', e2'⟩
      · rw [e, e', e2, e2']; exact ⟨rfl, rfl⟩
      · exfalso; omega
      · exfalso; omega
      · rw [e, e']; exact ⟨rfl, hc _ _ _ _ e2 e2'⟩
    all_goals (exfalso; omega)
  · rcases r' with ⟨p1, -, q1', n', d', q2'⟩ | ⟨p1, q2', n', d', q1'⟩ | ⟨p1, n', -, d', q1', q2'⟩ | ⟨p1, q'⟩ | ⟨p1, n', d', -, q'⟩ | ⟨p1, -, q1', q2'⟩ | ⟨p1, q1', q2'⟩
    · exfalso; omega
    · exfalso; omega
    · exfalso; omega
    · exfalso; omega
    · rw [numAt_eq d' d] at q'
      rcases q with ⟨z, e, e2⟩ | ⟨z, y, e, e2⟩ | ⟨z, y, e, e2⟩ <;> rcases q' with ⟨z', e', e2'⟩ | ⟨z', y', e', e2'⟩ | ⟨z', y', e', e2'⟩
      all_goals first | (rw [e, e', e2, e2']; exact ⟨rfl, rfl⟩) | exact absurd y' y | exact absurd y y' | (exfalso; omega)
    all_goals (exfalso; omega)
  · rcases r' with ⟨p1, -, q1', n', d', q2'⟩ | ⟨p1, q2', n', d', q1'⟩ | ⟨p1, n', -, d', q1', q2'⟩ | ⟨p1, q'⟩ | ⟨p1, n', d', -, q'⟩ | ⟨p1, -, q1', q2'⟩ | ⟨p1, q1', q2'⟩
    · exfalso; omega
    · exfalso; omega
    · exfalso; omega
    · exfalso; omega
    · exfalso; omega
    · rw [q1, q1', q2, q2']; exact ⟨rfl, rfl⟩
    · exfalso; omega
  · rcases r' with ⟨p1, -, q1', n', d', q2'⟩ | ⟨p1, q2', n', d', q1'⟩ | ⟨p1, n', -, d', q1', q2'⟩ | ⟨p1, q'⟩ | ⟨p1, n', d', -, q'⟩ | ⟨p1, -, q1', q2'⟩ | ⟨p1, q1', q2'⟩
    · exfalso; omega
    · exfalso; omega
    · exfalso; omega
    · exfalso; omega
    · exfalso; omega
    · exfalso; omega
    · rw [q1, q1', q2, q2']; exact ⟨rfl, rfl⟩
theorem does_det (hc : DC c1 c2) {p : Nat} {s f f' : Int} (r : doesR pool c1 m p s f a) (r' : doesR pool c2 m p s f' b) : f = f' ∧ a = b := by
  have no : ∀ {c : (Nat → Int) → Nat → (Nat → Int) → Prop} {g : Int} {d : Nat → Int}, stpR pool c m p s g d → pool p = 63 → False := fun {c g d} r e => by
    obtain ⟨-, -, -, r⟩ := r
    rcases r with ⟨p0, -⟩ | ⟨p0, -⟩ | ⟨p0, -⟩ | ⟨p0, -⟩ | ⟨p0, -⟩ | ⟨p0, -⟩ | ⟨p0, -⟩ <;> omega
  rcases r with r | ⟨e, -, -, -, -, n, k, d, ⟨k1, k2⟩, k3, k4, -, r⟩ <;> rcases r' with r' | ⟨e', -, -, -, -, n', k', d', ⟨k1', k2'⟩, k3', k4', -, r'⟩
  · exact stp_det hc r r'
  · exact (no r e').elim
  · exact (no r' e).elim
  · have ek : k = k' := by
      rcases Nat.lt_trichotomy k k' with z | z | z
      · exact absurd k3 (k4' k k1 z)
      · exact z
      · exact absurd k3' (k4 k' k1' z)
    subst ek
    rw [numAt_eq d' d] at r'
    rcases r with ⟨z, r⟩ | ⟨z, r1, r2⟩ <;> rcases r' with ⟨z', r'⟩ | ⟨z', r1', r2'⟩
    · exact stp_det hc r r'
    · exact absurd z z'
    · exact absurd z' z
    · rw [r1, r1', r2, r2']; exact ⟨rfl, rfl⟩
theorem loop_det (hc : DC c1 c2) {t E : Nat} : ∀ (k k' : Nat) (m : Nat → Int) (p : Nat) (f f' : Int) (a b : Nat → Int), loopR pool (doesR pool c1) t E k m p f a → loopR pool (doesR pool c2) t E k' m p f' b → f = f' ∧ a = b
  | 0, 0, m, p, f, f', a, b, ⟨_, r1, r2⟩, ⟨_, q1, q2⟩ => by rw [r1, r2, q1, q2]; exact ⟨rfl, rfl⟩
  | 0, k' + 1, m, p, f, f', a, b, ⟨r0, r1, r2⟩, q => by
    rcases q with ⟨_, q1, q2⟩ | ⟨q0, -⟩
    · rw [r1, r2, q1, q2]; exact ⟨rfl, rfl⟩
    · omega
  | k + 1, 0, m, p, f, f', a, b, r, ⟨q0, q1, q2⟩ => by
    rcases r with ⟨_, r1, r2⟩ | ⟨r0, -⟩
    · rw [r1, r2, q1, q2]; exact ⟨rfl, rfl⟩
    · omega
  | k + 1, k' + 1, m, p, f, f', a, b, r, q => by
    rcases r with ⟨r0, r1, r2⟩ | ⟨r0, f1, m1, d, -, r⟩ <;> rcases q with ⟨q0, q1, q2⟩ | ⟨q0, f2, m2, d', -, q⟩
    · rw [r1, r2, q1, q2]; exact ⟨rfl, rfl⟩
    · omega
    · omega
    · obtain ⟨rfl, rfl⟩ := does_det hc d d'
      rcases r with ⟨z, r1, r2⟩ | ⟨z, r⟩ <;> rcases q with ⟨z', q1, q2⟩ | ⟨z', q⟩
      · rw [r1, r2, q1, q2]; exact ⟨rfl, rfl⟩
      · exact absurd z' z
      · exact absurd z z'
      · exact loop_det hc k k' m1 _ _ _ _ _ r q
theorem closes_det {sink : Int} : ∀ (n n' : Nat), DC (closesR pool sink n) (closesR pool sink n')
  | 0, _, _, _, _, _, r, _ => r.elim
  | _ + 1, 0, _, _, _, _, _, q => q.elim
  | n + 1, n' + 1, m, t, a, b, ⟨_, _, r⟩, ⟨_, _, q⟩ => by
    rcases r with ⟨z, r⟩ | ⟨z, p, E, k, f, m2, e1, e2, -, -, lp, -, -, -, -, -, r⟩ <;> rcases q with ⟨z', q⟩ | ⟨z', p', E', k', f', m2', e1', e2', -, -, lp', -, -, -, -, -, q⟩
    · rw [r, q]
    · exact absurd z' z
    · exact absurd z z'
    · obtain rfl : p = p' := by omega
      obtain rfl : E = E' := by omega
      obtain ⟨rfl, rfl⟩ := loop_det (closes_det n n') k k' _ _ _ _ _ _ lp lp'
      rw [r, q]
theorem shl_det (hc : DC c1 c2) (hs : DS s1 s2) {s : Int} : ∀ (k k' : Nat) (m a b : Nat → Int), shLoopR c1 s1 s k m a → shLoopR c2 s2 s k' m b → a = b
  | 0, 0, m, a, b, ⟨_, _, _, r⟩, ⟨_, _, _, q⟩ => by rw [r, q]
  | 0, k' + 1, m, a, b, ⟨_, _, z, r⟩, ⟨_, _, q⟩ => by
    rcases q with ⟨_, q⟩ | ⟨z', -⟩ | ⟨z', -⟩
    · rw [r, q]
    · omega
    · omega
  | k + 1, 0, m, a, b, ⟨_, _, r⟩, ⟨_, _, z, q⟩ => by
    rcases r with ⟨_, r⟩ | ⟨z', -⟩ | ⟨z', -⟩
    · rw [r, q]
    · omega
    · omega
  | k + 1, k' + 1, m, a, b, ⟨_, _, r⟩, ⟨_, _, q⟩ => by
    rcases r with ⟨z, r⟩ | ⟨z, m1, r1, r⟩ | ⟨z, m1, r1, r⟩ <;> rcases q with ⟨z', q⟩ | ⟨z', m2, q1, q⟩ | ⟨z', m2, q1, q⟩
    · rw [r, q]
    · omega
    · omega
    · omega
    · obtain rfl := hc _ _ _ _ r1 q1
      exact shl_det hc hs k k' _ _ _ r q
    · omega
    · omega
    · omega
    · obtain rfl := hs _ _ _ _ r1 q1
      exact shl_det hc hs k k' _ _ _ r q
theorem shuts_det {sink : Int} : ∀ (n n' : Nat), DS (shutsR pool sink n) (shutsR pool sink n')
  | 0, _, _, _, _, _, r, _ => r.elim
  | _ + 1, 0, _, _, _, _, _, q => q.elim
  | n + 1, n' + 1, m, s, a, b, ⟨_, _, r⟩, ⟨_, _, q⟩ => by
    rcases r with ⟨z, r⟩ | ⟨z, k, m2, lp, r⟩ <;> rcases q with ⟨z', q⟩ | ⟨z', k', m2', lp', q⟩
    · rw [r, q]
    · exact absurd z' z
    · exact absurd z z'
    · obtain rfl := shl_det (closes_det 91 91) (shuts_det n n') k k' _ _ _ lp lp'
      rw [r, q]
theorem over_det (hs : DS s1 s2) {t : Nat} : ∀ (n : Nat) (m a b : Nat → Int), overR s1 t n m a → overR s2 t n m b → a = b
  | 0, m, a, b, r, q => by
    have r : a = m := r
    have q : b = m := q
    rw [r, q]
  | n + 1, m, a, b, ⟨_, m1, r1, r⟩, ⟨_, m2, q1, q⟩ => by
    obtain rfl := hs _ _ _ _ r1 q1
    exact over_det hs n _ _ _ r q
theorem isOver_det (hs : DS s1 s2) {t : Nat} {st : Int} (r : isOverR s1 t st m a) (q : isOverR s2 t st m b) : a = b := by
  obtain ⟨-, n, -, e, r⟩ := r
  obtain ⟨-, n', -, e', q⟩ := q
  obtain rfl : n = n' := by omega
  exact over_det hs n _ _ _ r q
theorem doesIn_det (hc : DC c1 c2) (hs : DS s1 s2) {t p : Nat} {f f' : Int} (r : doesInR pool c1 s1 m t p f a) (q : doesInR pool c2 s2 m t p f' b) : f = f' ∧ a = b := by
  obtain ⟨-, -, -, n, -, e, r⟩ := r
  obtain ⟨-, -, -, n', -, e', q⟩ := q
  obtain rfl : n = n' := by omega
  rcases r with ⟨z, r⟩ | ⟨z, r1, r⟩ | ⟨z, y, r⟩ <;> rcases q with ⟨z', q⟩ | ⟨z', q1, q⟩ | ⟨z', y', q⟩
  · rcases r with ⟨x, r1, r⟩ | ⟨x, w, r1, r⟩ | ⟨x, w, r1, r⟩ <;> rcases q with ⟨x', q1, q⟩ | ⟨x', w', q1, q⟩ | ⟨x', w', q1, q⟩
    all_goals first | (rw [r1, r, q1, q]; exact ⟨rfl, rfl⟩) | exact absurd w w' | exact absurd w' w | exact absurd x x' | exact absurd x' x
  · omega
  · exact absurd z z'
  · omega
  · rw [r1, q1]; exact ⟨rfl, hs _ _ _ _ r q⟩
  · exact absurd z y'
  · exact absurd z' z
  · exact absurd z' y
  · exact does_det hc r q
theorem turnFin_det (hs : DS s1 s2) {t E p : Nat} (r : turnFinR s1 t E m p a) (q : turnFinR s2 t E m p b) : a = b := by
  obtain ⟨-, -, r⟩ := r
  obtain ⟨-, -, q⟩ := q
  rcases r with ⟨z, r⟩ | ⟨z, r⟩ <;> rcases q with ⟨z', q⟩ | ⟨z', q⟩
  · rw [r, q]
  · omega
  · omega
  · exact isOver_det hs r q
theorem turnLoop_det (hc : DC c1 c2) (hs : DS s1 s2) {t E : Nat} : ∀ (k k' : Nat) (m : Nat → Int) (p : Nat) (a b : Nat → Int), turnLoopR pool c1 s1 t E k m p a → turnLoopR pool c2 s2 t E k' m p b → a = b
  | 0, 0, m, p, a, b, ⟨_, r⟩, ⟨_, q⟩ => turnFin_det hs r q
  | 0, k' + 1, m, p, a, b, ⟨z, r⟩, q => by
    rcases q with ⟨_, q⟩ | ⟨z', -⟩
    · exact turnFin_det hs r q
    · omega
  | k + 1, 0, m, p, a, b, r, ⟨z, q⟩ => by
    rcases r with ⟨_, r⟩ | ⟨z', -⟩
    · exact turnFin_det hs r q
    · omega
  | k + 1, k' + 1, m, p, a, b, r, q => by
    rcases r with ⟨z, r⟩ | ⟨z, f, m1, d, -, -, r⟩ <;> rcases q with ⟨z', q⟩ | ⟨z', f', m2, d', -, -, q⟩
    · exact turnFin_det hs r q
    · omega
    · omega
    · obtain ⟨rfl, rfl⟩ := doesIn_det hc hs d d'
      rcases r with ⟨x, r⟩ | ⟨x, ⟨y, r⟩ | ⟨y, r⟩⟩ <;> rcases q with ⟨x', q⟩ | ⟨x', ⟨y', q⟩ | ⟨y', q⟩⟩
      · exact isOver_det hs r q
      · exact absurd x' x
      · exact absurd x' x
      · exact absurd x x'
      · exact turnFin_det hs r q
      · exact absurd y y'
      · exact absurd x x'
      · exact absurd y' y
      · exact turnLoop_det hc hs k k' _ _ _ _ r q
theorem turn_det (hc : DC c1 c2) (hs : DS s1 s2) {t : Nat} (r : turnR pool c1 s1 m t a) (q : turnR pool c2 s2 m t b) : a = b := by
  obtain ⟨-, -, -, r⟩ := r
  obtain ⟨-, -, -, q⟩ := q
  rcases r with ⟨x, r⟩ | ⟨x, p, E, k, e1, e2, -, -, r⟩ <;> rcases q with ⟨x', q⟩ | ⟨x', p', E', k', e1', e2', -, -, q⟩
  · exact isOver_det hs r q
  · rw [x] at x'; cases x'
  · rw [x] at x'; cases x'
  · obtain rfl : p = p' := by omega
    obtain rfl : E = E' := by omega
    exact turnLoop_det hc hs k k' _ _ _ _ r q
theorem tick_det (r : tickR pool m a) (q : tickR pool m b) : a = b := by
  obtain ⟨-, -, r⟩ := r
  obtain ⟨-, -, q⟩ := q
  rcases r with ⟨z, r⟩ | ⟨z, r⟩ <;> rcases q with ⟨z', q⟩ | ⟨z', q⟩
  · rw [r, q]
  · omega
  · omega
  · exact turn_det (closes_det 91 91) (shuts_det 61 61) r q
end M2
