/-! ===== what the law looks at beside: the log, owners, names ===== -/
def sameN (m : Nat → Int) (t u : Nat) : Prop := m (261 + 14 * t) = m (261 + 14 * u) ∧ ∀ k : Nat, (k : Int) < m (261 + 14 * t) → m (265 + 14 * t + k) = m (265 + 14 * u + k)
def jB (m : Nat → Int) : Prop := (0 ≤ m 0 ∧ m 0 ≤ 60) ∧ (0 ≤ m 1 ∧ m 1 ≤ 90) ∧ (0 ≤ m 2 ∧ m 2 ≤ 90) ∧ 0 ≤ m 6
def jL (m : Nat → Int) : Prop := ∀ i : Nat, (i : Int) < m 2 → ∃ t : Nat, m (1518 + i) = t ∧ (t : Int) < m 1 ∧ m (258 + 14 * t) = 2 ∧ m (264 + 14 * t) = i
def jO (m : Nat → Int) : Prop := ∀ t : Nat, (t : Int) < m 1 → ¬ m (258 + 14 * t) = 2 → ∃ a : Nat, m (259 + 14 * t) = a ∧ (a : Int) < m 0 ∧ ¬ m (18 + 4 * a) = 2
def jN (m : Nat → Int) : Prop := ∀ t u : Nat, t < u → (u : Int) < m 1 → m (258 + 14 * t) = 0 → m (258 + 14 * u) = 0 → ¬ sameN m t u
/-- states, stamps, lengths of names -/
def jR (m : Nat → Int) : Prop := (∀ t : Nat, (t : Int) < m 1 → (0 ≤ m (258 + 14 * t) ∧ m (258 + 14 * t) ≤ 2) ∧ 0 ≤ m (260 + 14 * t) ∧ (0 ≤ m (261 + 14 * t) ∧ m (261 + 14 * t) ≤ 7)) ∧ ∀ c : Nat, (c : Int) < m 0 → 1 ≤ c → 0 ≤ m (20 + 4 * c)
def JI (m : Nat → Int) : Prop := jB m ∧ jL m ∧ jO m ∧ jN m ∧ jR m
def jC (q : Nat) : Prop := q ≤ 2 ∨ q = 6 ∨ (18 ≤ q ∧ q < 1608)
section M0
variable {m m' rc pool : Nat → Int}
theorem JI.congr (h : JI m) (e : ∀ q, jC q → m' q = m q) : JI m' := by
  obtain ⟨⟨b0, b1, b2, b6⟩, hL, hO, hN, hR, hS⟩ := h
  have e0 := e 0 (by unfold jC; omega)
  have e1 := e 1 (by unfold jC; omega)
  have e2 := e 2 (by unfold jC; omega)
  have e6 := e 6 (by unfold jC; omega)
  have eT : ∀ t k : Nat, (t : Int) < m 1 → k < 14 → m' (258 + 14 * t + k) = m (258 + 14 * t + k) := fun t k ht hk => e _ (by unfold jC; omega)
  refine ⟨⟨by omega, by omega, by omega, by omega⟩, fun i hi => ?_, fun t ht h2 => ?_, fun t u htu hu h1 h2 hs => ?_, fun t ht => ?_, fun c hc h1 => ?_⟩
  · obtain ⟨t, k1, k2, k3, k4⟩ := hL i (by omega)
    exact ⟨t, by rw [e _ (by unfold jC; omega)]; exact k1, by omega, by rw [e _ (by unfold jC; omega)]; exact k3, by rw [e _ (by unfold jC; omega)]; exact k4⟩
  · rw [e1] at ht
    obtain ⟨a, k1, k2, k3⟩ := hO t ht (by rw [← e _ (by unfold jC; omega)]; exact h2)
    exact ⟨a, by rw [e _ (by unfold jC; omega)]; exact k1, by omega, by rw [e _ (by unfold jC; omega)]; exact k3⟩
  · rw [e1] at hu
    have hr := (hR t (by omega)).2.2
    refine hN t u htu hu (by rw [← e _ (by unfold jC; omega)]; exact h1) (by rw [← e _ (by unfold jC; omega)]; exact h2) ⟨by rw [← e (261 + 14 * t) (by unfold jC; omega), ← e (261 + 14 * u) (by unfold jC; omega)]; exact hs.1, fun k hk => ?_⟩
    rw [← e (265 + 14 * t + k) (by unfold jC; omega), ← e (265 + 14 * u + k) (by unfold jC; omega)]
    exact hs.2 k (by rw [e _ (by unfold jC; omega)]; exact hk)
  · rw [e1] at ht
    rw [e (258 + 14 * t) (by unfold jC; omega), e (260 + 14 * t) (by unfold jC; omega), e (261 + 14 * t) (by unfold jC; omega)]
    exact hR t ht
  · rw [e (20 + 4 * c) (by unfold jC; omega)]
    exact hS c (by omega) h1
theorem JI.upd (h : JI m) {a : Nat} {v : Int} (ha : ¬ jC a) : JI (updI m a v) := h.congr (fun q hq => updI_n (fun e => ha (by rw [← e]; exact hq)))
theorem nmL_t {t fr : Nat} : ∀ n k : Nat, (∀ j, k ≤ j → j < k + n → m (265 + 14 * t + (j - fr)) = rc j) → nmL m rc t fr n k = true
  | 0, _, _ => rfl
  | n + 1, k, h => by
    show (if m (265 + 14 * t + (k - fr)) = rc k then nmL m rc t fr n (k + 1) else false) = true
    rw [if_pos (h k (Nat.le_refl _) (by omega))]
    exact nmL_t n (k + 1) (fun j h1 h2 => h j (by omega) (by omega))
theorem hbL_no {fr to : Nat} : ∀ n t : Nat, hbL m rc fr to n t < 0 → ∀ u, t ≤ u → u < t + n → ¬ (heldB m u = true ∧ namedB m rc u fr to = true)
  | 0, _, _, u, h1, h2 => by omega
  | n + 1, t, h, u, h1, h2 => by
    have e : hbL m rc fr to (n + 1) t = if heldB m t = true ∧ namedB m rc t fr to = true then (t : Int) else hbL m rc fr to n (t + 1) := rfl
    rw [e] at h
    split at h
    · omega
    · rename_i hn
      by_cases hu : u = t
      · rw [hu]; exact hn
      · exact hbL_no n (t + 1) h u (by omega) (by omega)
theorem hbL_yes {fr to : Nat} : ∀ n t : Nat, 0 ≤ hbL m rc fr to n t → ∃ u : Nat, hbL m rc fr to n t = u ∧ t ≤ u ∧ u < t + n ∧ m (258 + 14 * u) = 0
  | 0, _, h => by have : hbL m rc fr to 0 0 = -5 := rfl; exact absurd h (by show ¬ (0 : Int) ≤ -5; decide)
  | n + 1, t, h => by
    have e : hbL m rc fr to (n + 1) t = if heldB m t = true ∧ namedB m rc t fr to = true then (t : Int) else hbL m rc fr to n (t + 1) := rfl
    rw [e] at h ⊢
    split
    · rename_i hn
      exact ⟨t, rfl, Nat.le_refl _, by omega, of_decide_eq_true hn.1⟩
    · rename_i hn
      rw [if_neg hn] at h
      obtain ⟨u, k1, k2, k3, k4⟩ := hbL_yes n (t + 1) h
      exact ⟨u, k1, by omega, by omega, k4⟩
theorem J_take (h : JI m) {N fr to : Nat} {o p e : Int} (hN : m 1 = (N : Int)) (h9 : N < 90) (h7 : to - fr ≤ 7) (hft : fr ≤ to) (ho : ∃ a : Nat, o = a ∧ (a : Int) < m 0 ∧ ¬ m (18 + 4 * a) = 2) (hb : hbL m rc fr to N 0 < 0) : JI (takesM m rc N o fr to p e) := by
  obtain ⟨⟨b0, b1, b2, b6⟩, hL, hO, hNn, hR, hS⟩ := h
  obtain ⟨a, o1, o2, o3⟩ := ho
  have n0 : takesM m rc N o fr to p e 0 = m 0 := takesM_n h7 (by omega) (by omega) (by omega)
  have n2 : takesM m rc N o fr to p e 2 = m 2 := takesM_n h7 (by omega) (by omega) (by omega)
  have n1 : takesM m rc N o fr to p e 1 = N + 1 := takesM_1
  have n6 : takesM m rc N o fr to p e 6 = m 6 + 1 := takesM_6
  have nS : ∀ q, 18 ≤ q → q < 258 → takesM m rc N o fr to p e q = m q := fun q h1 h2 => takesM_n h7 (by omega) (by omega) (by omega)
  have nT : ∀ t k : Nat, t < N → k < 14 → takesM m rc N o fr to p e (258 + 14 * t + k) = m (258 + 14 * t + k) := fun t k h1 h2 => takesM_n h7 (by omega) (by omega) (by omega)
  refine ⟨⟨by omega, by omega, by omega, by omega⟩, fun i hi => ?_, fun t ht h2 => ?_, fun t u htu hu h1 h2 hs => ?_, fun t ht => ?_, fun c hc h1 => ?_⟩
  · rw [n2] at hi
    obtain ⟨t, k1, k2, k3, k4⟩ := hL i hi
    exact ⟨t, by rw [takesM_n h7 (by omega) (by omega) (by omega)]; exact k1, by omega, by rw [takesM_n h7 (by omega) (by omega) (by omega)]; exact k3, by rw [takesM_n h7 (by omega) (by omega) (by omega)]; exact k4⟩
  · rw [n1] at ht
    by_cases z : t = N
    · subst z
      refine ⟨a, by rw [takesM_ow]; exact o1, by omega, by rw [nS _ (by omega) (by omega)]; exact o3⟩
    · rw [takesM_n h7 (by omega) (by omega) (by omega)] at h2
      obtain ⟨a, k1, k2, k3⟩ := hO t (by omega) h2
      exact ⟨a, by rw [takesM_n h7 (by omega) (by omega) (by omega)]; exact k1, by omega, by rw [nS _ (by omega) (by omega)]; exact k3⟩
  · rw [n1] at hu
    rw [takesM_n h7 (by omega) (by omega) (by omega)] at h1
    by_cases z : u = N
    · subst z
      refine hbL_no u 0 hb t (Nat.zero_le _) (by omega) ⟨decide_eq_true h1, ?_⟩
      obtain ⟨s1, s2⟩ := hs
      rw [takesM_n h7 (by omega) (by omega) (by omega), takesM_ln] at s1
      unfold namedB
      rw [decide_eq_true s1, Bool.true_and]
      refine nmL_t _ _ (fun j j1 j2 => ?_)
      have := s2 (j - fr) (by rw [takesM_n h7 (by omega) (by omega) (by omega), s1]; omega)
      rw [takesM_n h7 (by omega) (by omega) (by omega), takesM_nm h7 (by omega), if_pos (by omega)] at this
      rw [this, show fr + (j - fr) = j by omega]
    · rw [takesM_n h7 (by omega) (by omega) (by omega)] at h2
      have hr := (hR t (by omega)).2.2
      refine hNn t u htu (by omega) h1 h2 ⟨?_, fun k hk => ?_⟩
      · have := hs.1
        rwa [takesM_n h7 (by omega) (by omega) (by omega), takesM_n h7 (by omega) (by omega) (by omega)] at this
      · have := hs.2 k (by rw [takesM_n h7 (by omega) (by omega) (by omega)]; exact hk)
        rwa [takesM_n h7 (by omega) (by omega) (by omega), takesM_n h7 (by omega) (by omega) (by omega)] at this
  · rw [n1] at ht
    by_cases z : t = N
    · subst z
      rw [takesM_st, takesM_sp, takesM_ln]
      exact ⟨by decide, by omega, by omega⟩
    · rw [takesM_n h7 (by omega) (by omega) (by omega), takesM_n h7 (by omega) (by omega) (by omega), takesM_n h7 (by omega) (by omega) (by omega)]
      exact hR t (by omega)
  · rw [nS _ (by omega) (by omega)]
    exact hS c (by omega) h1
/-- a held thing comes to another scope -/
theorem J_move (h : JI m) {t : Nat} {s : Int} (ht : (t : Int) < m 1) (hs : ∃ a : Nat, s = a ∧ (a : Int) < m 0 ∧ ¬ m (18 + 4 * a) = 2) : JI (movesM m t s) := by
  obtain ⟨⟨b0, b1, b2, b6⟩, hL, hO, hNn, hR, hS⟩ := h
  obtain ⟨a, o1, o2, o3⟩ := hs
  have nn : ∀ q, ¬ q = 6 → ¬ q = 259 + 14 * t → ¬ q = 260 + 14 * t → movesM m t s q = m q := fun q h1 h2 h3 => by
    unfold movesM
    rw [updI_n h3, updI_n h1, updI_n h2]
  have n6 : movesM m t s 6 = m 6 + 1 := by unfold movesM; rw [updI_n (by omega), updI_s]
  have n9 : movesM m t s (259 + 14 * t) = s := by unfold movesM; rw [updI_n (by omega), updI_n (by omega), updI_s]
  have n0 : movesM m t s (260 + 14 * t) = m 6 + 1 := by unfold movesM; rw [updI_s]
  have z0 := nn 0 (by omega) (by omega) (by omega)
  have z1 := nn 1 (by omega) (by omega) (by omega)
  have z2 := nn 2 (by omega) (by omega) (by omega)
  refine ⟨⟨by omega, by omega, by omega, by omega⟩, fun i hi => ?_, fun u hu h2 => ?_, fun t u htu hu h1 h2 hs => ?_, fun u hu => ?_, fun c hc h1 => ?_⟩
  · obtain ⟨u, k1, k2, k3, k4⟩ := hL i (by omega)
    exact ⟨u, by rw [nn _ (by omega) (by omega) (by omega)]; exact k1, by omega, by rw [nn _ (by omega) (by omega) (by omega)]; exact k3, by rw [nn _ (by omega) (by omega) (by omega)]; exact k4⟩
  · by_cases z : u = t
    · subst z
      exact ⟨a, by rw [n9]; exact o1, by omega, by rw [nn _ (by omega) (by omega) (by omega)]; exact o3⟩
    · rw [nn _ (by omega) (by omega) (by omega)] at h2
      obtain ⟨a, k1, k2, k3⟩ := hO u (by omega) h2
      exact ⟨a, by rw [nn _ (by omega) (by omega) (by omega)]; exact k1, by omega, by rw [nn _ (by omega) (by omega) (by omega)]; exact k3⟩
  · rw [nn _ (by omega) (by omega) (by omega)] at h1 h2
    have hr := (hR t (by omega)).2.2
    refine hNn t u htu (by omega) h1 h2 ⟨?_, fun k hk => ?_⟩
    · have := hs.1
      rwa [nn _ (by omega) (by omega) (by omega), nn _ (by omega) (by omega) (by omega)] at this
    · have := hs.2 k (by rw [nn _ (by omega) (by omega) (by omega)]; exact hk)
      rwa [nn _ (by omega) (by omega) (by omega), nn _ (by omega) (by omega) (by omega)] at this
  · rw [nn (258 + 14 * u) (by omega) (by omega) (by omega), nn (261 + 14 * u) (by omega) (by omega) (by omega)]
    have y := hR u (by omega)
    refine ⟨y.1, ?_, y.2.2⟩
    by_cases z : u = t
    · subst z; rw [n0]; omega
    · rw [nn _ (by omega) (by omega) (by omega)]; exact y.2.1
  · rw [nn _ (by omega) (by omega) (by omega)]
    exact hS c (by omega) h1
/-- a held thing is being closed -/
theorem J_closing (h : JI m) {t : Nat} (ht : (t : Int) < m 1) (h0 : m (258 + 14 * t) = 0) : JI (updI m (258 + 14 * t) 1) := by
  obtain ⟨⟨b0, b1, b2, b6⟩, hL, hO, hNn, hR, hS⟩ := h
  have nn : ∀ q, ¬ q = 258 + 14 * t → updI m (258 + 14 * t) 1 q = m q := fun q h => updI_n h
  have z0 := nn 0 (by omega)
  have z1 := nn 1 (by omega)
  have z2 := nn 2 (by omega)
  have z6 := nn 6 (by omega)
  refine ⟨⟨by omega, by omega, by omega, by omega⟩, fun i hi => ?_, fun u hu h2 => ?_, fun v u htu hu h1 h2 hs => ?_, fun u hu => ?_, fun c hc h1 => ?_⟩
  · obtain ⟨u, k1, k2, k3, k4⟩ := hL i (by omega)
    have : ¬ u = t := fun e => by rw [e, h0] at k3; exact absurd k3 (by decide)
    exact ⟨u, by rw [nn _ (by omega)]; exact k1, by omega, by rw [nn _ (by omega)]; exact k3, by rw [nn _ (by omega)]; exact k4⟩
  · have hq : ¬ m (258 + 14 * u) = 2 := by
      by_cases z : u = t
      · subst z; rw [h0]; decide
      · rw [nn _ (by omega)] at h2; exact h2
    obtain ⟨a, k1, k2, k3⟩ := hO u (by omega) hq
    exact ⟨a, by rw [nn _ (by omega)]; exact k1, by omega, by rw [nn _ (by omega)]; exact k3⟩
  · have hv : ¬ v = t := fun e => by rw [e, updI_s] at h1; exact absurd h1 (by decide)
    have hw : ¬ u = t := fun e => by rw [e, updI_s] at h2; exact absurd h2 (by decide)
    rw [nn _ (by omega)] at h1 h2
    have hr := (hR v (by omega)).2.2
    refine hNn v u htu (by omega) h1 h2 ⟨?_, fun k hk => ?_⟩
    · have := hs.1
      rwa [nn _ (by omega), nn _ (by omega)] at this
    · have := hs.2 k (by rw [nn _ (by omega)]; exact hk)
      rwa [nn _ (by omega), nn _ (by omega)] at this
  · rw [nn (260 + 14 * u) (by omega), nn (261 + 14 * u) (by omega)]
    have y := hR u (by omega)
    refine ⟨?_, y.2⟩
    by_cases z : u = t
    · subst z; rw [updI_s]; decide
    · rw [nn _ (by omega)]; exact y.1
  · rw [nn _ (by omega)]
    exact hS c (by omega) h1
/-- one that was being closed is closed -/
theorem J_closed (h : JI m) {t : Nat} (ht : (t : Int) < m 1) (h1 : m (258 + 14 * t) = 1) (h2 : m 2 ≤ 89) : JI (closedM m t) := by
  obtain ⟨⟨b0, b1, b2, b6⟩, hL, hO, hNn, hR, hS⟩ := h
  obtain ⟨L, hLn⟩ : ∃ L : Nat, m 2 = L := ⟨(m 2).toNat, by omega⟩
  have eL : (1518 + m 2).toNat = 1518 + L := by omega
  have nn : ∀ q, ¬ q = 2 → ¬ q = 258 + 14 * t → ¬ q = 264 + 14 * t → ¬ q = 1518 + L → closedM m t q = m q := fun q h1 h2 h3 h4 => by
    unfold closedM
    rw [updI_n h1, eL, updI_n h4, updI_n h3, updI_n h2]
  have z2 : closedM m t 2 = L + 1 := by unfold closedM; rw [updI_s]; omega
  have zs : closedM m t (258 + 14 * t) = 2 := by unfold closedM; rw [updI_n (by omega), eL, updI_n (by omega), updI_n (by omega), updI_s]
  have zp : closedM m t (264 + 14 * t) = L := by unfold closedM; rw [updI_n (by omega), eL, updI_n (by omega), updI_s, hLn]
  have zl : closedM m t (1518 + L) = t := by unfold closedM; rw [updI_n (by omega), eL, updI_s]
  have z0 := nn 0 (by omega) (by omega) (by omega) (by omega)
  have z1 := nn 1 (by omega) (by omega) (by omega) (by omega)
  have z6 := nn 6 (by omega) (by omega) (by omega) (by omega)
  refine ⟨⟨by omega, by omega, by omega, by omega⟩, fun i hi => ?_, fun u hu h2 => ?_, fun v u htu hu h1 h2 hs => ?_, fun u hu => ?_, fun c hc h1 => ?_⟩
  · by_cases z : i = L
    · subst z
      exact ⟨t, zl, by omega, zs, zp⟩
    · obtain ⟨u, k1, k2, k3, k4⟩ := hL i (by omega)
      have : ¬ u = t := fun e => by rw [e, h1] at k3; exact absurd k3 (by decide)
      exact ⟨u, by rw [nn _ (by omega) (by omega) (by omega) (by omega)]; exact k1, by omega, by rw [nn _ (by omega) (by omega) (by omega) (by omega)]; exact k3, by rw [nn _ (by omega) (by omega) (by omega) (by omega)]; exact k4⟩
  · have hu' : ¬ u = t := fun e => h2 (by rw [e]; exact zs)
    rw [nn _ (by omega) (by omega) (by omega) (by omega)] at h2
    obtain ⟨a, k1, k2, k3⟩ := hO u (by omega) h2
    exact ⟨a, by rw [nn _ (by omega) (by omega) (by omega) (by omega)]; exact k1, by omega, by rw [nn _ (by omega) (by omega) (by omega) (by omega)]; exact k3⟩
  · have hv : ¬ v = t := fun e => by rw [e, zs] at h1; exact absurd h1 (by decide)
    have hw : ¬ u = t := fun e => by rw [e, zs] at h2; exact absurd h2 (by decide)
    rw [nn _ (by omega) (by omega) (by omega) (by omega)] at h1 h2
    have hr := (hR v (by omega)).2.2
    refine hNn v u htu (by omega) h1 h2 ⟨?_, fun k hk => ?_⟩
    · have := hs.1
      rwa [nn _ (by omega) (by omega) (by omega) (by omega), nn _ (by omega) (by omega) (by omega) (by omega)] at this
    · have := hs.2 k (by rw [nn _ (by omega) (by omega) (by omega) (by omega)]; exact hk)
      rwa [nn _ (by omega) (by omega) (by omega) (by omega), nn _ (by omega) (by omega) (by omega) (by omega)] at this
  · rw [nn (260 + 14 * u) (by omega) (by omega) (by omega) (by omega), nn (261 + 14 * u) (by omega) (by omega) (by omega) (by omega)]
    have y := hR u (by omega)
    refine ⟨?_, y.2⟩
    by_cases z : u = t
    · subst z; rw [zs]; decide
    · rw [nn _ (by omega) (by omega) (by omega) (by omega)]; exact y.1
  · rw [nn _ (by omega) (by omega) (by omega) (by omega)]
    exact hS c (by omega) h1
/-- a scope's state: not SHUT, or nothing stands in it -/
theorem J_scope (h : JI m) {s : Nat} {v : Int} (hs : s < 60) (hv : v = 2 → ∀ t : Nat, (t : Int) < m 1 → ¬ m (258 + 14 * t) = 2 → ¬ m (259 + 14 * t) = s) : JI (updI m (18 + 4 * s) v) := by
  obtain ⟨⟨b0, b1, b2, b6⟩, hL, hO, hNn, hR, hS⟩ := h
  have nn : ∀ q, ¬ q = 18 + 4 * s → updI m (18 + 4 * s) v q = m q := fun q h => updI_n h
  have z0 := nn 0 (by omega)
  have z1 := nn 1 (by omega)
  have z2 := nn 2 (by omega)
  have z6 := nn 6 (by omega)
  refine ⟨⟨by omega, by omega, by omega, by omega⟩, fun i hi => ?_, fun u hu h2 => ?_, fun v u htu hu h1 h2 hs => ?_, fun u hu => ?_, fun c hc h1 => ?_⟩
  · obtain ⟨u, k1, k2, k3, k4⟩ := hL i (by omega)
    exact ⟨u, by rw [nn _ (by omega)]; exact k1, by omega, by rw [nn _ (by omega)]; exact k3, by rw [nn _ (by omega)]; exact k4⟩
  · rw [nn _ (by omega)] at h2
    obtain ⟨a, k1, k2, k3⟩ := hO u (by omega) h2
    refine ⟨a, by rw [nn _ (by omega)]; exact k1, by omega, ?_⟩
    by_cases z : a = s
    · subst z
      rw [updI_s]
      exact fun e => hv e u (by omega) h2 k1
    · rw [nn _ (by omega)]; exact k3
  · rw [nn _ (by omega)] at h1 h2
    have hr := (hR v (by omega)).2.2
    refine hNn v u htu (by omega) h1 h2 ⟨?_, fun k hk => ?_⟩
    · have := hs.1
      rwa [nn _ (by omega), nn _ (by omega)] at this
    · have := hs.2 k (by rw [nn _ (by omega)]; exact hk)
      rwa [nn _ (by omega), nn _ (by omega)] at this
  · rw [nn _ (by omega), nn _ (by omega), nn _ (by omega)]
    exact hR u (by omega)
  · rw [nn _ (by omega)]
    exact hS c (by omega) h1
/-- a scope comes -/
theorem J_opens (h : JI m) {N : Nat} {p t : Int} (hN : m 0 = (N : Int)) (h9 : N < 60) : JI (opensM m N p t) := by
  obtain ⟨⟨b0, b1, b2, b6⟩, hL, hO, hNn, hR, hS⟩ := h
  obtain ⟨o0, oS, oP, oT, oK, o6, nn⟩ := opensM_at (m := m) (C := N) (p := p) (t := t)
  have z1 := nn 1 (by omega) (by omega) (by omega)
  have z2 := nn 2 (by omega) (by omega) (by omega)
  refine ⟨⟨by omega, by omega, by omega, by omega⟩, fun i hi => ?_, fun u hu h2 => ?_, fun v u htu hu h1 h2 hs => ?_, fun u hu => ?_, fun c hc h1 => ?_⟩
  · obtain ⟨u, k1, k2, k3, k4⟩ := hL i (by omega)
    exact ⟨u, by rw [nn _ (by omega) (by omega) (by omega)]; exact k1, by omega, by rw [nn _ (by omega) (by omega) (by omega)]; exact k3, by rw [nn _ (by omega) (by omega) (by omega)]; exact k4⟩
  · rw [nn _ (by omega) (by omega) (by omega)] at h2
    obtain ⟨a, k1, k2, k3⟩ := hO u (by omega) h2
    exact ⟨a, by rw [nn _ (by omega) (by omega) (by omega)]; exact k1, by omega, by rw [nn _ (by omega) (by omega) (by omega)]; exact k3⟩
  · rw [nn _ (by omega) (by omega) (by omega)] at h1 h2
    have hr := (hR v (by omega)).2.2
    refine hNn v u htu (by omega) h1 h2 ⟨?_, fun k hk => ?_⟩
    · have := hs.1
      rwa [nn _ (by omega) (by omega) (by omega), nn _ (by omega) (by omega) (by omega)] at this
    · have := hs.2 k (by rw [nn _ (by omega) (by omega) (by omega)]; exact hk)
      rwa [nn _ (by omega) (by omega) (by omega), nn _ (by omega) (by omega) (by omega)] at this
  · rw [nn _ (by omega) (by omega) (by omega), nn _ (by omega) (by omega) (by omega), nn _ (by omega) (by omega) (by omega)]
    exact hR u (by omega)
  · by_cases z : c = N
    · subst z; rw [oT]; omega
    · rw [nn _ (by omega) (by omega) (by omega)]
      exact hS c (by omega) h1
end M0
