section mg_b0
section TF
variable {G : mG} {l : Launch} {r : Nat} {b : Int} {pool : Nat → Int} {S : Nat → Option mO} {h0 : mH}
end TF
end mg_b0
section mg_b1
/-! ===== the end of a task, on both sides ===== -/
/-- what is left of the world's cells by a task's end -/
def KPo (q : Nat) (c c' : Nat → Int) (g g' : Nat → Option Nat) : Prop := (∀ j, 180 ≤ j → g' j = g j) ∧ (∀ k, 488 ≤ k → (∀ t : Nat, k ≠ 496 + 9 * t) → ¬ k = 494 + 9 * q → c' k = c k) ∧ c' 3 = c 3 ∧ c' 4 = c 4
theorem KPk.o {q : Nat} {c c' : Nat → Int} {g g' : Nat → Option Nat} (h : KPk c c' g g') : KPo q c c' g g' := ⟨h.1, fun k a b _ => h.2.1 k a b, h.2.2⟩
theorem KPo.tr {q : Nat} {c c' c'' : Nat → Int} {g g' g'' : Nat → Option Nat} (h : KPo q c c' g g') (k : KPo q c' c'' g' g'') : KPo q c c'' g g'' := ⟨fun j a => (k.1 j a).trans (h.1 j a), fun x a d e => (k.2.1 x a d e).trans (h.2.1 x a d e), k.2.2.1.trans h.2.2.1, k.2.2.2.trans h.2.2.2⟩
section TO
variable {G : mG} {l : Launch} {r : Nat} {b : Int} {pool : Nat → Int} {S : Nat → Option mO} {h0 : mH}
theorem over_inv {q : Nat} : ∀ (n : Nat) (m m' : Nat → Int), (∃ B, Mid m pool B) → overR (shS G l r b pool S h0 61) q n m m' → (∃ B, Mid m' pool B) ∧ Es m m'
  | 0, m, m', hM, hO => by
    obtain rfl : m' = m := hO
    exact ⟨hM, Es.rf⟩
  | n + 1, m, m', ⟨B, hM⟩, hO => by
    obtain ⟨-, m1, ⟨-, -, ⟨B1, hI⟩, sci, es⟩, hO⟩ := hO
    obtain ⟨x, y⟩ := over_inv n m1 m' ⟨B1, hI, sci, es.2.2.2.1 hM.2.2.1, es.ns hM.2.2.2 hM.1.1.2.1.2⟩ hO
    exact ⟨x, es.tr y⟩
end TO
end mg_b1
