section mg_9b
/-! ===== the class: one round of its work ===== -/
theorem vrs (s : Nat) : va_rf (some s) = .ref s := rfl
theorem vrn : va_rf none = .null := rfl
def gcC (c : Nat → Int) (t L : Nat) (k : Int) : Nat → Int := updI (updI (updI (updI c (32 + 3 * t) 1) (34 + 3 * t) (L : Int)) 9 ((L : Int) + 1)) 10 k
def gcD (C : Nat → Nat → Int) (t L Z : Nat) : Nat → Nat → Int := updC (updC C 1 (updI (C 1) L (t : Int))) 2 (drA (t : Int) (C 2) Z)
end mg_9b
