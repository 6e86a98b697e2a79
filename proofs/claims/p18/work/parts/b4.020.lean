section mg_b9
section EV
variable {m pool c : Nat → Int} {S : Nat → Option mO} {C : Nat → Nat → Int} {nm : Nat → Int64} {g : Nat → Option Nat} {a : Int} {Z N K : Nat}
/-- the entries of both sides -/
def entE (m c f : Nat → Int) (N K Z : Nat) (a : Int) : Prop := (∀ j, j < Z → 0 ≤ f j ∧ f j < 160) ∧ (∀ j k, j < k → k < Z → stampI m (f j) < stampI m (f k)) ∧ (∀ j, j < Z → enB c f a j = true → entryP m N K a (f j).toNat) ∧ (∀ e : Nat, entryP m N K a e → ∃ j, j < Z ∧ f j = e ∧ enB c f a j = true) ∧ ∀ j, j < Z → stampI m (f j) ≤ m 6
end EV
end mg_b9
