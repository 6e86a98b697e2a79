section mg_84
section PL
variable {m : Nat → Int} {N C : Nat}
/-- held, and in a scope by an entry with an elder stamp -/
def via (m : Nat → Int) (N C s : Nat) (st : Int) (t : Nat) : Prop := m (258 + 14 * t) = 0 ∧ ∃ e : Nat, e < 160 ∧ entryP m N C s e ∧ stampV m e < st ∧ inE m t e
noncomputable def viaN (m : Nat → Int) (N C s : Nat) (st : Int) : Int := cnt (fun t => bP (via m N C s st t)) N
noncomputable def inN (m : Nat → Int) (N e : Nat) : Int := cnt (fun t => bP (m (258 + 14 * t) = 0 ∧ inE m t e)) N
noncomputable def ahN (m : Nat → Int) (N C s : Nat) (st : Int) : Int := cnt (fun e => bP (entryP m N C s e ∧ stampV m e < st)) 160
theorem via_split (hp : parI m C) (ho : ∀ t : Nat, t < N → m (259 + 14 * t) < C) {s e : Nat} {st : Int} (he : e < 160) (h : entryP m N C s e) (hst : stampV m e < st) : viaN m N C s (stampV m e) + inN m N e ≤ viaN m N C s st := by
  refine cnt_add N (fun t ht z => ?_) (fun t ht z => ?_) (fun t ht z w => ?_)
  · rw [bP_t] at z ⊢
    obtain ⟨z1, e', z2, z3, z4, z5⟩ := z
    exact ⟨z1, e', z2, z3, by omega, z5⟩
  · rw [bP_t] at z ⊢
    exact ⟨z.1, e, he, h, hst, z.2⟩
  · rw [bP_t] at z w
    obtain ⟨z1, e', z2, z3, z4, z5⟩ := z
    have := inE_one hp ho ht z3 h z5 w.2
    subst this
    omega
theorem via_in (hp : parI m C) (ho : ∀ t : Nat, t < N → 0 ≤ m (259 + 14 * t) ∧ m (259 + 14 * t) < C) {c : Nat} {st : Int} : viaN m N C c st ≤ inN m N (100 + c) := by
  refine cnt_le N (fun t ht z => ?_)
  rw [bP_t] at z ⊢
  obtain ⟨z1, e, z2, z3, z4, z5⟩ := z
  have own := ho t ht
  refine ⟨z1, Or.inr ⟨by omega, own.1, ?_⟩⟩
  rw [show 100 + c - 100 = c by omega]
  rcases entP_c z3 with ⟨a1, a2, a3, a4⟩ | ⟨a1, a2, a3⟩
  · rcases z5 with ⟨_, k⟩ | ⟨k, _⟩
    · subst k
      exact ⟨0, by rw [a4]; rfl⟩
    · omega
  · rcases z5 with ⟨k, _⟩ | ⟨_, k0, i, ki⟩
    · omega
    · refine ⟨i + 1, ?_⟩
      rw [itP_add i 1 _ _ ki]
      unfold itP
      rw [if_pos (by omega), a3]
      rfl
theorem ah_less {s e : Nat} {st : Int} (he : e < 160) (h : entryP m N C s e) (hst : stampV m e < st) : ahN m N C s (stampV m e) < ahN m N C s st := by
  have h1 : cnt (fun q => decide (q = e)) 160 = 1 := by
    have := cnt_upd (p := fun _ => false) (p' := fun q => decide (q = e)) (t := e) (M := 160) rfl (by simp) (fun q _ hq => by simp [hq]) 160 (Nat.le_refl _)
    rw [if_pos he] at this
    have z : ∀ n, cnt (fun _ => false) n = 0 := by
      intro n
      induction n with
      | zero => rfl
      | succ n ih => rw [cnt_S, ih]; rfl
    rw [z] at this
    omega
  have := cnt_add (p1 := fun e' => bP (entryP m N C s e' ∧ stampV m e' < stampV m e)) (p2 := fun q => decide (q = e)) (p := fun e' => bP (entryP m N C s e' ∧ stampV m e' < st)) 160 (fun t _ z => by rw [bP_t] at z ⊢; exact ⟨z.1, by omega⟩) (fun t _ z => by
      rw [decide_eq_true_eq] at z
      subst z
      rw [bP_t]; exact ⟨h, hst⟩) (fun t _ z w => by
      rw [decide_eq_true_eq] at w
      subst w
      rw [bP_t] at z
      omega)
  unfold ahN
  omega
theorem eaL_p {a st : Int} : ∀ (n e : Nat) (f : Int), (f = -5 ∨ ∃ u : Nat, f = u ∧ u < e ∧ entryP m N C a u ∧ stampV m u < st) → (eaL m N C a st n e f = -5 ∨ ∃ u : Nat, eaL m N C a st n e f = u ∧ u < e + n ∧ entryP m N C a u ∧ stampV m u < st)
  | 0, e, f, h => h
  | n + 1, e, f, h => by
    unfold eaL
    rw [show e + (n + 1) = e + 1 + n by omega]
    refine eaL_p n (e + 1) _ ?_
    split
    · rename_i c
      exact Or.inr ⟨e, rfl, by omega, c.1, c.2.1⟩
    · rcases h with h | ⟨u, a1, a2, a3⟩
      · exact Or.inl h
      · exact Or.inr ⟨u, a1, by omega, a3⟩
theorem stampI_V {e : Nat} : stampI m (e : Int) = stampV m e := by
  unfold stampI stampV
  by_cases c : e < 100
  · rw [if_pos c, if_pos (by omega)]; congr 1 <;> omega
  · rw [if_neg c, if_neg (by omega)]; congr 1 <;> omega
end PL
end mg_84
