section mg_36
end mg_36
section mg_37
/-! ===== contracts of the reference: scope, below, youngest, told ===== -/
def belowV (m : Nat → Int) (C : Nat) (a o : Int) : Int := if (0 ≤ a ∧ a ≤ m 0 - 1) ∧ (0 ≤ o ∧ o ≤ m 0 - 1) then bz (belowB m C o a) else -1
end mg_37
