section mg_a3
section SC
variable {G : mG} {l : Launch} {r : Nat} {b : Int} {pool : Nat → Int} {S : Nat → Option mO} {h0 : mH} {n : Nat}
theorem loop_inv {t E : Nat} {cl : (Nat → Int) → Nat → (Nat → Int) → Prop} : ∀ (kf : Nat) (m m2 : Nat → Int) (B : Int) (p : Nat) (fl : Int), Inv m pool B → loopR pool (drI pool cl) t E kf m p fl m2 → Ev m m2 ∧ ∃ B, Inv m2 pool B
  | 0, m, m2, B, p, fl, hI, hL => by
    rw [hL.2.2]; exact ⟨Ev.rf, B, hI⟩
  | kf + 1, m, m2, B, p, fl, hI, hL => by
    rcases hL with ⟨a1, a2, a3⟩ | ⟨a1, f1, m1, ⟨-, ⟨B1, a2⟩, a5⟩, a3, a4⟩
    · rw [a3]; exact ⟨Ev.rf, B, hI⟩
    · rcases a4 with ⟨-, -, a4⟩ | ⟨-, a4⟩
      · rw [a4]; exact ⟨a5, B1, a2⟩
      · obtain ⟨x, y⟩ := loop_inv kf m1 m2 B1 _ fl a2 a4
        exact ⟨a5.tr x, y⟩
/-- where a closer goes on: nowhere, or at a step -/
def rsO (S : Nat → Option mO) (pool : Nat → Int) (r : Option Nat) (p E : Nat) : Prop := (E ≤ p ∧ r = none) ∨ (∃ s hi n, r = some s ∧ stL S pool n false 0 s hi p E)
end SC
end mg_a3
