section mg_9l
end mg_9l
section mg_9m
/-! ===== the class: what may begin a step ===== -/
def mbP (k br gd o : Int) : Prop := (k = 43 ∨ k = 33 ∨ k = 97 ∨ k = 120 ∨ k = 109 ∨ k = 107 ∨ k = 46) ∨ (k = 63 ∧ gd = 0) ∨ (k = 40 ∧ gd = 0 ∧ br = 0) ∨ (k = 41 ∧ gd = 0 ∧ br = 0 ∧ 0 < o)
end mg_9m
