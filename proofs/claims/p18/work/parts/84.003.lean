section mg_84
set_option maxRecDepth 100000 in
theorem pl_loop {m : Nat → Int} (hN : 0 ≤ m 1 ∧ m 1 ≤ 90) (hC : 0 ≤ m 0 ∧ m 0 ≤ 60) (hp : parI m (m 0).toNat) (ho : ∀ t : Nat, t < (m 1).toNat → 0 ≤ m (259 + 14 * t) ∧ m (259 + 14 * t) < (m 0).toNat) {n s : Nat}
    (hS : ∀ (c : Nat) (p : Nat → Int) (k : Nat), s < c → (c : Int) < m 0 → (k : Int) + viaN m (m 1).toNat (m 0).toNat c (m 6 + 1) ≤ 90 → ∃ p' k', plR m n c p k p' k' ∧ (k' : Int) ≤ k + viaN m (m 1).toNat (m 0).toNat c (m 6 + 1)) :
    ∀ (J : Nat) (st : Int) (p : Nat → Int) (k : Nat), ahN m (m 1).toNat (m 0).toNat s st ≤ J → (k : Int) + viaN m (m 1).toNat (m 0).toNat s st ≤ 90 → ∃ j p' k', plLR (plR m n) m s j (eaI m s st) p k p' k' ∧ (k' : Int) ≤ k + viaN m (m 1).toNat (m 0).toNat s st
  | J, st, p, k, hJ, hk => by
    have vn := (cnt_r (fun t => bP (via m (m 1).toNat (m 0).toNat s st t)) (m 1).toNat).1
    have ho' : ∀ t : Nat, t < (m 1).toNat → m (259 + 14 * t) < (m 0).toNat := fun t ht => (ho t ht).2
    have he := eaL_p (m := m) (N := (m 1).toNat) (C := (m 0).toNat) (a := (s : Int)) (st := st) 160 0 (-5) (Or.inl rfl)
    have ed : eaI m s st = eaL m (m 1).toNat (m 0).toNat s st 160 0 (-5) := rfl
    rw [← ed] at he
    rcases he with he | ⟨u, he, hu, h1, h2⟩
    · exact ⟨0, p, k, ⟨by omega, rfl, rfl⟩, by unfold viaN; omega⟩
    · have hu160 : u < 160 := by omega
      have sp := via_split hp ho' hu160 h1 h2
      have al := ah_less hu160 h1 h2
      have an := (cnt_r (fun e => bP (entryP m (m 1).toNat (m 0).toNat s e ∧ stampV m e < stampV m u)) 160).1
      have an2 : 0 ≤ ahN m (m 1).toNat (m 0).toNat s (stampV m u) := an
      have vn2 : 0 ≤ viaN m (m 1).toNat (m 0).toNat s (stampV m u) := (cnt_r _ _).1
      have est : stampI m (eaI m s st) = stampV m u := by rw [he]; exact stampI_V
      cases J with
      | zero => omega
      | succ J =>
        rcases entP_c h1 with ⟨a1, a2, a3, a4⟩ | ⟨a1, a2, a3⟩
        · have one : 1 ≤ inN m (m 1).toNat u := by
            have c1 : cnt (fun q => decide (q = u)) (m 1).toNat = 1 := by
              have := cnt_upd (p := fun _ => false) (p' := fun q => decide (q = u)) (t := u) (M := (m 1).toNat) rfl (by simp) (fun q _ hq => by simp [hq]) (m 1).toNat (Nat.le_refl _)
              rw [if_pos a2] at this
              have z : ∀ n, cnt (fun _ => false) n = 0 := by
                intro n
                induction n with
                | zero => rfl
                | succ n ih => rw [cnt_S, ih]; rfl
              rw [z] at this
              omega
            have := cnt_le (p1 := fun q => decide (q = u)) (p := fun t => bP (m (258 + 14 * t) = 0 ∧ inE m t u)) (m 1).toNat (fun t _ z => by
              rw [decide_eq_true_eq] at z
              subst z
              rw [bP_t]; exact ⟨a3, Or.inl ⟨a1, rfl⟩⟩)
            unfold inN
            omega
          obtain ⟨j, p', k', r1, r2⟩ := pl_loop hN hC hp ho hS J (stampV m u) (updI p k (eaI m s st)) (k + 1) (by omega) (by omega)
          exact ⟨j + 1, p', k', Or.inr (Or.inl ⟨by omega, by omega, by rw [est]; exact r1⟩), by omega⟩
        · have pc := hp (u - 100) (by omega)
          have vi := via_in (m := m) (N := (m 1).toNat) (C := (m 0).toNat) hp ho (c := u - 100) (st := m 6 + 1)
          rw [show 100 + (u - 100) = u by omega] at vi
          obtain ⟨p1, k1, q1, q2⟩ := hS (u - 100) p k (by omega) (by omega) (by omega)
          obtain ⟨j, p', k', r1, r2⟩ := pl_loop hN hC hp ho hS J (stampV m u) p1 k1 (by omega) (by omega)
          exact ⟨j + 1, p', k', Or.inr (Or.inr ⟨by omega, p1, k1, by rw [he, show (u : Int) - 100 = ((u - 100 : Nat) : Int) by omega]; exact q1, by rw [est]; exact r1⟩), by omega⟩
end mg_84
