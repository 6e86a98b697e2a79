section mg_b8
section FL
variable {m pool c : Nat → Int} {S : Nat → Option mO} {C : Nat → Nat → Int} {nm : Nat → Int64} {g : Nat → Option Nat}
/-- where there is none -/
theorem fn_none (hC : CR m pool S c C nm g) (hT : TKR m pool c S g 99) (hok : mOk m) {t : Int} (ht : t = -1 ∨ (0 ≤ t ∧ t ≤ m 3 - 1)) {N F : Nat} (hN : m 4 = (N : Int)) (hF : c 11 = (F : Int)) (h0 : manyV m N t = 0) : fnF c (C 5) (C 3) F t 0 = 0 ∧ fgF c (C 5) (C 4) F t 0 = -1 := by
  obtain ⟨a, b⟩ := pw_none hC hT hok ht hN hF h0
  rw [(fnF_0 a).1, (fnF_0 a).2, b, if_pos (show (-1 : Int) < 0 by decide)]
  refine ⟨?_, rfl⟩
  unfold atF
  rw [if_neg (fun z => by have := z.1; omega)]
end FL
end mg_b8
section mg_b9
/-! ===== the entries of a scope one by one, on both sides ===== -/
theorem cnt_at {P : Nat → Bool} {k : Int} (h0 : 0 ≤ k) : ∀ n, k < cnt P n → ∃ p, p < n ∧ P p = true ∧ cnt P p = k
  | 0, h => by have : cnt P 0 = 0 := rfl; omega
  | n + 1, h => by
    by_cases z : k < cnt P n
    · obtain ⟨p, a, b⟩ := cnt_at h0 n z
      exact ⟨p, by omega, b⟩
    · rw [cnt_S] at h
      by_cases w : P n = true
      · rw [if_pos w] at h; exact ⟨n, by omega, w, by omega⟩
      · rw [if_neg w] at h; omega
section EN
variable {c f : Nat → Int} {i k : Int}
theorem ey_at {p : Nat} (hp : enB c f i p = true) (hk : cnt (enB c f i) p = k) : ∀ n t, t ≤ p → p < t + n → eyL c f i k n t = f p
  | 0, t, a, b => by omega
  | n + 1, t, a, b => by
    unfold eyL
    by_cases z : enB c f i t = true ∧ cnt (enB c f i) t = k
    · rw [if_pos z, cnt_two z.1 hp (z.2.trans hk.symm)]
    · have tp : ¬ t = p := fun e => z (by rw [e]; exact ⟨hp, hk⟩)
      rw [if_neg z]
      exact ey_at hp hk n (t + 1) (by omega) (by omega)
theorem ey_no : ∀ n t, (k < 0 ∨ cnt (enB c f i) (t + n) ≤ k) → eyL c f i k n t = -1
  | 0, t, _ => rfl
  | n + 1, t, h => by
    unfold eyL
    have nz : ¬ (enB c f i t = true ∧ cnt (enB c f i) t = k) := fun g => by
      have r := cnt_r (enB c f i) t
      rcases h with h | h
      · omega
      · have a := cnt_mono (p := enB c f i) (show t + 1 ≤ t + (n + 1) by omega)
        rw [cnt_S, if_pos g.1] at a
        omega
    rw [if_neg nz]
    refine ey_no n (t + 1) ?_
    rcases h with h | h
    · exact Or.inl h
    · exact Or.inr (by rw [show t + 1 + n = t + (n + 1) by omega]; exact h)
end EN
theorem stV_I {m : Nat → Int} {e : Nat} : stampV m e = stampI m (e : Int) := by
  unfold stampV stampI
  by_cases z : e < 100
  · rw [if_pos z, if_pos (by omega)]; congr 1
  · rw [if_neg z, if_neg (by omega)]; congr 1; omega
end mg_b9
