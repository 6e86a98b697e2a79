section mg_86
end mg_86
section mg_87
/-! ===== the class: the turns' order, the entries ===== -/
def raB (c : Nat → Int) (a : Nat) (t : Nat) : Bool := decide (c (489 + 9 * t) = 0 ∧ (caP c t a ∨ t < a ∧ ¬ caP c a t))
end mg_87
