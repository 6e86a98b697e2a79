section mg_39
def faultsV (m : Nat → Int) (N : Nat) (t : Int) : Int := if t = -1 ∨ (0 ≤ t ∧ t ≤ m 3 - 1) then manyV m N t else -1
end mg_39
