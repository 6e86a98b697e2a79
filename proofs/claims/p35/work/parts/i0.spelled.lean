/-! ===== what the model spells, as a list ===== -/
def spLt (sr : Nat → Int) : Nat → Nat → Bool → List Int
  | 0, _, _ => []
  | n + 1, p, b => if sr p = 45 ∧ numAt sr 20 p = 0 then spLt sr n (p + 1) b else if sr p = 48 ∧ b = false ∧ dgP (sr (p + 1)) then spLt sr n (p + 1) false else sr p :: spLt sr n (p + 1) (decide (dgP (sr p)))
theorem apS_k {s : (Nat → Int) × Int} {v : Int} {L : List Int} : apS s (v :: L) = apS (ap1 s v) L := rfl
theorem apS_same : ∀ (L : List Int) (f g : Nat → Int) (z : Int), (∀ q : Nat, (q : Int) < z → f q = g q) → (apS (f, z) L).2 = (apS (g, z) L).2 ∧ ∀ q : Nat, (q : Int) < (apS (f, z) L).2 → (apS (f, z) L).1 q = (apS (g, z) L).1 q
  | [], f, g, z, h => ⟨rfl, h⟩
  | v :: L, f, g, z, h => by
    show (apS (ap1 (f, z) v) L).2 = (apS (ap1 (g, z) v) L).2 ∧ ∀ q : Nat, (q : Int) < (apS (ap1 (f, z) v) L).2 → (apS (ap1 (f, z) v) L).1 q = (apS (ap1 (g, z) v) L).1 q
    unfold ap1
    by_cases c : 0 ≤ z ∧ z < 120
    · rw [if_pos c, if_pos c]
      refine apS_same L _ _ _ (fun q hq => ?_)
      show updI f z.toNat v q = updI g z.toNat v q
      by_cases e : q = z.toNat
      · rw [e, updI_s, updI_s]
      · rw [updI_n e, updI_n e]
        exact h q (by have : (q : Int) < z + 1 := hq; omega)
    · rw [if_neg c, if_neg c]
      exact apS_same L f g z h
theorem spS_ap {pool : Nat → Int} {to : Nat} (hto : ¬ dgP (pool to)) : ∀ (n p : Nat) (b : Bool) (pap : Nat → Int) (w : Nat), p + n ≤ to → w + n ≤ 120 → apS (pap, (w : Int)) (spLt pool n p b) = ((spS pool to n p b pap w).1, ((spS pool to n p b pap w).2 : Int))
  | 0, p, b, pap, w, _, _ => rfl
  | n + 1, p, b, pap, w, h1, h2 => by
    unfold spLt spS
    by_cases c : pool p = 45 ∧ numAt pool 20 p = 0
    · rw [if_pos c, if_pos c]
      exact spS_ap hto n (p + 1) b pap w (by omega) (by omega)
    · rw [if_neg c, if_neg c]
      by_cases c2 : pool p = 48 ∧ b = false ∧ dgP (pool (p + 1))
      · have lt : p + 1 < to := by
          by_cases e : p + 1 = to
          · exact absurd (by rw [← e]; exact c2.2.2) hto
          · omega
        rw [if_pos c2, if_pos ⟨c2.1, c2.2.1, lt, c2.2.2⟩]
        exact spS_ap hto n (p + 1) false pap w (by omega) (by omega)
      · rw [if_neg c2, if_neg (fun z => c2 ⟨z.1, z.2.1, z.2.2.2⟩)]
        have e : ap1 (pap, (w : Int)) (pool p) = (updI pap w (pool p), ((w + 1 : Nat) : Int)) := by
          unfold ap1
          rw [if_pos ⟨by show (0 : Int) ≤ (w : Int); omega, by show (w : Int) < 120; omega⟩]
          show (updI pap ((w : Int)).toNat (pool p), (w : Int) + 1) = _
          rw [Int.toNat_natCast, show ((w + 1 : Nat) : Int) = (w : Int) + 1 by omega]
        rw [apS_k, e]
        exact spS_ap hto n (p + 1) (decide (dgP (pool p))) (updI pap w (pool p)) (w + 1) (by omega) (by omega)
section SG
variable {sr : Nat → Int} {p e f n : Nat} {b b' b2 : Bool} {L M : List Int}
theorem sp_skip (h1 : sr p = 48) (h2 : dgP (sr (p + 1))) : spLt sr (n + 1) p false = spLt sr n (p + 1) false := by
  rw [spLt, if_neg (fun z => by omega), if_pos ⟨h1, rfl, h2⟩]
theorem sp_dig (h : dgP (sr p)) (h2 : b = true ∨ ¬ sr p = 48 ∨ ¬ dgP (sr (p + 1))) : spLt sr (n + 1) p b = sr p :: spLt sr n (p + 1) true := by
  rw [spLt, if_neg (fun z => by omega), if_neg (fun z => ?_), decide_eq_true h]
  rcases h2 with h2 | h2 | h2
  · rw [h2] at z; exact absurd z.2.1 (by decide)
  · exact h2 z.1
  · exact h2 z.2.2
theorem sp_chr (h : ¬ dgP (sr p)) (h2 : ¬ sr p = 45) : spLt sr (n + 1) p b = sr p :: spLt sr n (p + 1) false := by
  rw [spLt, if_neg (fun z => h2 z.1), if_neg (fun z => h (by rw [z.1]; decide)), decide_eq_false h]
theorem sp_min0 (h : sr p = 45) (h2 : numAt sr 20 p = 0) : spLt sr (n + 1) p b = spLt sr n (p + 1) b := by
  rw [spLt, if_pos ⟨h, h2⟩]
theorem sp_min1 (h : sr p = 45) (h2 : ¬ numAt sr 20 p = 0) : spLt sr (n + 1) p b = 45 :: spLt sr n (p + 1) false := by
  rw [spLt, if_neg (fun z => h2 z.2), if_neg (fun z => by omega), decide_eq_false (by rw [h]; decide), h]
/-- from p in a state to e in a state the list L is written -/
def Sg (sr : Nat → Int) (p : Nat) (b : Bool) (e : Nat) (b' : Bool) (L : List Int) : Prop := p ≤ e ∧ ∀ n, spLt sr ((e - p) + n) p b = L ++ spLt sr n e b'
theorem Sg.rf : Sg sr p b p b [] := ⟨Nat.le_refl _, fun n => by rw [show p - p + n = n by omega]; rfl⟩
theorem Sg.tr (h : Sg sr p b e b' L) (k : Sg sr e b' f b2 M) : Sg sr p b f b2 (L ++ M) := by
  obtain ⟨h1, h2⟩ := h
  obtain ⟨k1, k2⟩ := k
  refine ⟨by omega, fun n => ?_⟩
  rw [show f - p + n = (e - p) + ((f - e) + n) by omega, h2, k2, List.append_assoc]
theorem Sg.ch (h : ¬ dgP (sr p)) (h2 : ¬ sr p = 45) : Sg sr p b (p + 1) false [sr p] := ⟨by omega, fun n => by rw [show p + 1 - p + n = n + 1 by omega]; exact sp_chr h h2⟩
theorem Sg.c1 {c : Int} (hc : sr p = c) (h : ¬ dgP c) (h2 : ¬ c = 45) : Sg sr p b (p + 1) false [c] := by
  subst hc; exact Sg.ch h h2
def lsG (sr : Nat → Int) : Nat → Nat → List Int
  | 0, _ => []
  | m + 1, p => sr p :: lsG sr m (p + 1)
theorem Sg.ds : ∀ (m p : Nat), (∀ j, j < m → dgP (sr (p + j))) → Sg sr p true (p + m) true (lsG sr m p)
  | 0, p, _ => Sg.rf
  | m + 1, p, h => by
    have a : Sg sr p true (p + 1) true [sr p] := ⟨by omega, fun n => by rw [show p + 1 - p + n = n + 1 by omega]; exact sp_dig (h 0 (by omega)) (Or.inl rfl)⟩
    have y := a.tr (Sg.ds m (p + 1) (fun j hj => by have := h (j + 1) (by omega); rw [show p + 1 + j = p + (j + 1) by omega]; exact this))
    rw [show p + 1 + m = p + (m + 1) by omega] at y
    exact y
theorem Sg.ls : ∀ (m p : Nat) (b : Bool), 1 ≤ m → (∀ j, j < m → isLt (sr (p + j))) → Sg sr p b (p + m) false (lsG sr m p)
  | 0, p, b, h, _ => by omega
  | m + 1, p, b, _, h => by
    have h0 : isLt (sr p) := h 0 (by omega)
    have a : Sg sr p b (p + 1) false [sr p] := Sg.ch (by unfold isLt at h0; omega) (by unfold isLt at h0; omega)
    by_cases c : m = 0
    · subst c; exact a
    · have y := a.tr (Sg.ls m (p + 1) false (by omega) (fun j hj => by have := h (j + 1) (by omega); rw [show p + 1 + j = p + (j + 1) by omega]; exact this))
      rw [show p + 1 + m = p + (m + 1) by omega] at y
      exact y
theorem naL_1 {k : Nat} {v : Int} (h : dgP (sr k)) : naL sr (n + 1) k v = naL sr n (k + 1) (10 * v + sr k - 48) := by
  show (if 48 ≤ sr k ∧ sr k ≤ 57 then naL sr n (k + 1) (10 * v + sr k - 48) else v) = _
  exact if_pos h
theorem naL_0 {k : Nat} {v : Int} (h : ¬ dgP (sr k)) : naL sr n k v = v := by
  cases n with
  | zero => rfl
  | succ n =>
    show (if 48 ≤ sr k ∧ sr k ≤ 57 then naL sr n (k + 1) (10 * v + sr k - 48) else v) = _
    exact if_neg h
theorem naL_st : ∀ (m k p : Nat) (v : Int), m ≤ k → (∀ j, j < m → dgP (sr (p + j))) → ¬ dgP (sr (p + m)) → naL sr k p v = naL sr m p v
  | 0, k, p, v, _, _, h => naL_0 h
  | m + 1, 0, p, v, h, _, _ => by omega
  | m + 1, k + 1, p, v, h, hd, he => by
    have d0 : dgP (sr p) := hd 0 (by omega)
    rw [naL_1 d0, naL_1 d0]
    exact naL_st m k (p + 1) _ (by omega) (fun j hj => by have := hd (j + 1) (by omega); rw [show p + 1 + j = p + (j + 1) by omega]; exact this) (by rw [show p + 1 + m = p + (m + 1) by omega]; exact he)
theorem dgL_no {u : Int} {k : Nat} (h : u < tenP (k + 1)) : dgL u (k + 1) = dgL u k := by
  rw [dgL, if_neg (by omega)]
theorem dgL_yes {u : Int} {k : Nat} (h : tenP (k + 1) ≤ u) : dgL u (k + 1) = dgV u (tenP (k + 1)) :: dgL u k := by
  rw [dgL, if_pos h]
theorem num_1 (d : ∀ j, j < 1 → dgP (sr (p + j))) : nbLs (naL sr 1 p 0) = lsG sr 1 p := by
  have d0 : dgP (sr (p)) := d 0 (by decide)
  have hv : naL sr 1 p 0 = (10 * 0 + sr (p) - 48) := by
    rw [naL_1 (n := 0) d0]
    rfl
  generalize naL sr 1 p 0 = u at hv ⊢
  have t1 : tenP 1 = 10 := rfl
  have t2 : tenP 2 = 100 := rfl
  have t3 : tenP 3 = 1000 := rfl
  have t4 : tenP 4 = 10000 := rfl
  unfold nbLs
  rw [if_neg (by omega)]
  rw [dgL_no (k := 3) (by rw [t4]; omega)]
  rw [dgL_no (k := 2) (by rw [t3]; omega)]
  rw [dgL_no (k := 1) (by rw [t2]; omega)]
  rw [dgL_no (k := 0) (by rw [t1]; omega)]
  have a0 : dgV u 1 = sr (p) := by unfold dgV; omega
  show [dgV u 1] = [sr (p)]
  rw [a0]
theorem num_2 (d : ∀ j, j < 2 → dgP (sr (p + j))) (h : ¬ sr p = 48) : nbLs (naL sr 2 p 0) = lsG sr 2 p := by
  have d0 : dgP (sr (p)) := d 0 (by decide)
  have d1 : dgP (sr (p + 1)) := d 1 (by decide)
  have hv : naL sr 2 p 0 = (10 * (10 * 0 + sr (p) - 48) + sr (p + 1) - 48) := by
    rw [naL_1 (n := 1) d0]
    rw [naL_1 (n := 0) d1]
    rfl
  generalize naL sr 2 p 0 = u at hv ⊢
  have t1 : tenP 1 = 10 := rfl
  have t2 : tenP 2 = 100 := rfl
  have t3 : tenP 3 = 1000 := rfl
  have t4 : tenP 4 = 10000 := rfl
  unfold nbLs
  rw [if_neg (by omega)]
  rw [dgL_no (k := 3) (by rw [t4]; omega)]
  rw [dgL_no (k := 2) (by rw [t3]; omega)]
  rw [dgL_no (k := 1) (by rw [t2]; omega)]
  rw [dgL_yes (k := 0) (by rw [t1]; omega), t1]
  have a0 : dgV u 10 = sr (p) := by unfold dgV; omega
  have a1 : dgV u 1 = sr (p + 1) := by unfold dgV; omega
  show dgV u 10 :: [dgV u 1] = sr (p) :: [sr (p + 1)]
  rw [a0, a1]
theorem num_3 (d : ∀ j, j < 3 → dgP (sr (p + j))) (h : ¬ sr p = 48) : nbLs (naL sr 3 p 0) = lsG sr 3 p := by
  have d0 : dgP (sr (p)) := d 0 (by decide)
  have d1 : dgP (sr (p + 1)) := d 1 (by decide)
  have d2 : dgP (sr (p + 1 + 1)) := d 2 (by decide)
  have hv : naL sr 3 p 0 = (10 * (10 * (10 * 0 + sr (p) - 48) + sr (p + 1) - 48) + sr (p + 1 + 1) - 48) := by
    rw [naL_1 (n := 2) d0]
    rw [naL_1 (n := 1) d1]
    rw [naL_1 (n := 0) d2]
    rfl
  generalize naL sr 3 p 0 = u at hv ⊢
  have t1 : tenP 1 = 10 := rfl
  have t2 : tenP 2 = 100 := rfl
  have t3 : tenP 3 = 1000 := rfl
  have t4 : tenP 4 = 10000 := rfl
  unfold nbLs
  rw [if_neg (by omega)]
  rw [dgL_no (k := 3) (by rw [t4]; omega)]
  rw [dgL_no (k := 2) (by rw [t3]; omega)]
  rw [dgL_yes (k := 1) (by rw [t2]; omega), t2]
  rw [dgL_yes (k := 0) (by rw [t1]; omega), t1]
  have a0 : dgV u 100 = sr (p) := by unfold dgV; omega
  have a1 : dgV u 10 = sr (p + 1) := by unfold dgV; omega
  have a2 : dgV u 1 = sr (p + 1 + 1) := by unfold dgV; omega
  show dgV u 100 :: dgV u 10 :: [dgV u 1] = sr (p) :: sr (p + 1) :: [sr (p + 1 + 1)]
  rw [a0, a1, a2]
theorem num_4 (d : ∀ j, j < 4 → dgP (sr (p + j))) (h : ¬ sr p = 48) : nbLs (naL sr 4 p 0) = lsG sr 4 p := by
  have d0 : dgP (sr (p)) := d 0 (by decide)
  have d1 : dgP (sr (p + 1)) := d 1 (by decide)
  have d2 : dgP (sr (p + 1 + 1)) := d 2 (by decide)
  have d3 : dgP (sr (p + 1 + 1 + 1)) := d 3 (by decide)
  have hv : naL sr 4 p 0 = (10 * (10 * (10 * (10 * 0 + sr (p) - 48) + sr (p + 1) - 48) + sr (p + 1 + 1) - 48) + sr (p + 1 + 1 + 1) - 48) := by
    rw [naL_1 (n := 3) d0]
    rw [naL_1 (n := 2) d1]
    rw [naL_1 (n := 1) d2]
    rw [naL_1 (n := 0) d3]
    rfl
  generalize naL sr 4 p 0 = u at hv ⊢
  have t1 : tenP 1 = 10 := rfl
  have t2 : tenP 2 = 100 := rfl
  have t3 : tenP 3 = 1000 := rfl
  have t4 : tenP 4 = 10000 := rfl
  unfold nbLs
  rw [if_neg (by omega)]
  rw [dgL_no (k := 3) (by rw [t4]; omega)]
  rw [dgL_yes (k := 2) (by rw [t3]; omega), t3]
  rw [dgL_yes (k := 1) (by rw [t2]; omega), t2]
  rw [dgL_yes (k := 0) (by rw [t1]; omega), t1]
  have a0 : dgV u 1000 = sr (p) := by unfold dgV; omega
  have a1 : dgV u 100 = sr (p + 1) := by unfold dgV; omega
  have a2 : dgV u 10 = sr (p + 1 + 1) := by unfold dgV; omega
  have a3 : dgV u 1 = sr (p + 1 + 1 + 1) := by unfold dgV; omega
  show dgV u 1000 :: dgV u 100 :: dgV u 10 :: [dgV u 1] = sr (p) :: sr (p + 1) :: sr (p + 1 + 1) :: [sr (p + 1 + 1 + 1)]
  rw [a0, a1, a2, a3]
theorem num_5 (d : ∀ j, j < 5 → dgP (sr (p + j))) (h : ¬ sr p = 48) : nbLs (naL sr 5 p 0) = lsG sr 5 p := by
  have d0 : dgP (sr (p)) := d 0 (by decide)
  have d1 : dgP (sr (p + 1)) := d 1 (by decide)
  have d2 : dgP (sr (p + 1 + 1)) := d 2 (by decide)
  have d3 : dgP (sr (p + 1 + 1 + 1)) := d 3 (by decide)
  have d4 : dgP (sr (p + 1 + 1 + 1 + 1)) := d 4 (by decide)
  have hv : naL sr 5 p 0 = (10 * (10 * (10 * (10 * (10 * 0 + sr (p) - 48) + sr (p + 1) - 48) + sr (p + 1 + 1) - 48) + sr (p + 1 + 1 + 1) - 48) + sr (p + 1 + 1 + 1 + 1) - 48) := by
    rw [naL_1 (n := 4) d0]
    rw [naL_1 (n := 3) d1]
    rw [naL_1 (n := 2) d2]
    rw [naL_1 (n := 1) d3]
    rw [naL_1 (n := 0) d4]
    rfl
  generalize naL sr 5 p 0 = u at hv ⊢
  have t1 : tenP 1 = 10 := rfl
  have t2 : tenP 2 = 100 := rfl
  have t3 : tenP 3 = 1000 := rfl
  have t4 : tenP 4 = 10000 := rfl
  unfold nbLs
  rw [if_neg (by omega)]
  rw [dgL_yes (k := 3) (by rw [t4]; omega), t4]
  rw [dgL_yes (k := 2) (by rw [t3]; omega), t3]
  rw [dgL_yes (k := 1) (by rw [t2]; omega), t2]
  rw [dgL_yes (k := 0) (by rw [t1]; omega), t1]
  have a0 : dgV u 10000 = sr (p) := by unfold dgV; omega
  have a1 : dgV u 1000 = sr (p + 1) := by unfold dgV; omega
  have a2 : dgV u 100 = sr (p + 1 + 1) := by unfold dgV; omega
  have a3 : dgV u 10 = sr (p + 1 + 1 + 1) := by unfold dgV; omega
  have a4 : dgV u 1 = sr (p + 1 + 1 + 1 + 1) := by unfold dgV; omega
  show dgV u 10000 :: dgV u 1000 :: dgV u 100 :: dgV u 10 :: [dgV u 1] = sr (p) :: sr (p + 1) :: sr (p + 1 + 1) :: sr (p + 1 + 1 + 1) :: [sr (p + 1 + 1 + 1 + 1)]
  rw [a0, a1, a2, a3, a4]
theorem num_sg : ∀ (m k p : Nat), 1 ≤ m → m ≤ 5 → m ≤ k → (∀ j, j < m → dgP (sr (p + j))) → ¬ dgP (sr (p + m)) → Sg sr p false (p + m) true (nbLs (naL sr k p 0))
  | 0, k, p, h, _, _, _, _ => by omega
  | m + 1, k, p, _, h5, hk, hd, he => by
    rw [naL_st (m + 1) k p 0 hk hd he]
    have d0 : dgP (sr p) := hd 0 (by omega)
    have dn : ∀ j, j < m → dgP (sr (p + 1 + j)) := fun j hj => by have := hd (j + 1) (by omega); rw [show p + 1 + j = p + (j + 1) by omega]; exact this
    have e2 : ¬ dgP (sr (p + 1 + m)) := by rw [show p + 1 + m = p + (m + 1) by omega]; exact he
    by_cases c : sr p = 48 ∧ 1 ≤ m
    · have y := num_sg m m (p + 1) c.2 (by omega) (Nat.le_refl _) dn e2
      have a : Sg sr p false (p + 1) false [] := ⟨by omega, fun n => by rw [show p + 1 - p + n = n + 1 by omega]; exact sp_skip c.1 (dn 0 (by omega))⟩
      have z := a.tr y
      rw [show p + 1 + m = p + (m + 1) by omega, List.nil_append] at z
      rw [naL_1 d0, c.1]
      exact z
    · have a : Sg sr p false (p + 1) true [sr p] := ⟨by omega, fun n => by
        rw [show p + 1 - p + n = n + 1 by omega]
        refine sp_dig d0 (Or.inr ?_)
        by_cases m0 : m = 0
        · subst m0; exact Or.inr e2
        · exact Or.inl (fun z => c ⟨z, by omega⟩)⟩
      have z := a.tr (Sg.ds m (p + 1) dn)
      rw [show p + 1 + m = p + (m + 1) by omega] at z
      have w : nbLs (naL sr (m + 1) p 0) = lsG sr (m + 1) p := by
        match m, h5, hd, c with
        | 0, _, hd, _ => exact num_1 hd
        | 1, _, hd, c => exact num_2 hd (fun z => c ⟨z, by decide⟩)
        | 2, _, hd, c => exact num_3 hd (fun z => c ⟨z, by decide⟩)
        | 3, _, hd, c => exact num_4 hd (fun z => c ⟨z, by decide⟩)
        | 4, _, hd, c => exact num_5 hd (fun z => c ⟨z, by decide⟩)
        | m + 5, h5, _, _ => omega
      rw [w]
      exact z
theorem numS_sg {k : Nat} (hk : k ≤ 5) (h : numS sr p e k) (he : ¬ dgP (sr e)) : Sg sr p false e true (nbLs (naL sr k p 0)) := by
  obtain ⟨h1, h2, h3⟩ := h
  have y := num_sg (sr := sr) (e - p) k p (by omega) (by omega) (by omega) (fun j hj => h3 (p + j) (by omega) (by omega)) (by rw [show p + (e - p) = e by omega]; exact he)
  rw [show p + (e - p) = e by omega] at y
  exact y
theorem sgnS_sg (h : sgnS sr p e) (he : ¬ dgP (sr e)) : Sg sr p false e true (nbLs (sgV sr p)) := by
  rcases h with ⟨h1, h2⟩ | h2
  · have y := numS_sg (Nat.le_refl 5) h2 he
    obtain ⟨g1, g2, g3⟩ := id h2
    have n20 : numAt sr 20 p = -(naL sr 5 (p + 1) 0) := by
      unfold numAt
      rw [if_pos h1, naL_st (e - (p + 1)) 21 (p + 1) 0 (by omega) (fun j hj => g3 (p + 1 + j) (by omega) (by omega)) (by rw [show p + 1 + (e - (p + 1)) = e by omega]; exact he), naL_st (e - (p + 1)) 5 (p + 1) 0 (by omega) (fun j hj => g3 (p + 1 + j) (by omega) (by omega)) (by rw [show p + 1 + (e - (p + 1)) = e by omega]; exact he)]
    have vs : sgV sr p = -(naL sr 5 (p + 1) 0) := by unfold sgV; rw [if_pos h1]
    have v0 := (naL_le (sr := sr) 5 (p + 1) 0 (Int.le_refl _)).1
    rw [vs]
    by_cases z : naL sr 5 (p + 1) 0 = 0
    · have a : Sg sr p false (p + 1) false [] := ⟨by omega, fun n => by rw [show p + 1 - p + n = n + 1 by omega]; exact sp_min0 h1 (by rw [n20, z]; rfl)⟩
      have w := a.tr y
      rw [List.nil_append, z] at w
      rw [z]
      exact w
    · have a : Sg sr p false (p + 1) false [45] := ⟨by omega, fun n => by rw [show p + 1 - p + n = n + 1 by omega]; exact sp_min1 h1 (by rw [n20]; omega)⟩
      have w := a.tr y
      have e1 : nbLs (-(naL sr 5 (p + 1) 0)) = [45] ++ nbLs (naL sr 5 (p + 1) 0) := by
        unfold nbLs
        rw [if_pos (by omega), if_neg (by omega), Int.neg_neg]
        rfl
      rw [e1]
      exact w
  · have g := h2.2.2 p (Nat.le_refl _) h2.1
    have vs : sgV sr p = naL sr 5 p 0 := by unfold sgV; rw [if_neg (by omega)]
    rw [vs]
    exact numS_sg (Nat.le_refl 5) h2 he
theorem nmF_ls (h : ∀ j, p ≤ j → j < e → isLt (sr j)) (h7 : e ≤ p + 7) : ∀ n i, p + i + n ≤ e → nmF (nmY sr p e) n i = lsG sr n (p + i)
  | 0, i, _ => rfl
  | n + 1, i, hi => by
    show letV (nmY sr p e) (i : Int) :: nmF (nmY sr p e) n (i + 1) = sr (p + i) :: lsG sr n (p + i + 1)
    rw [letV_n h (by omega), if_pos (by omega), nmF_ls h h7 n (i + 1) (by omega)]
    rfl
theorem namS_sg (h : namS sr p e) : Sg sr p b e false (nmLs (nmY sr p e)) := by
  obtain ⟨h1, h2, h3, -⟩ := h
  unfold nmLs
  rw [lnL_n h3 ⟨by omega, by omega⟩ 7 0 (by omega) (by omega), Int.toNat_natCast, nmF_ls h3 h2 (e - p) 0 (by omega)]
  have y := Sg.ls (sr := sr) (e - p) p b (by omega) (fun j hj => h3 (p + j) (by omega) (by omega))
  rw [show p + (e - p) = e by omega] at y
  exact y
end SG
