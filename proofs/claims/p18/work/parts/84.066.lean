section mg_91
end mg_91
section mg_92
/-! ===== the class: scopes and tasks that come, things that move, faults that are gathered ===== -/
def asC (c : Nat → Int) (S : Nat) (i k : Int) : Nat → Int := updI (updI (updI (updI c 1 ((S : Int) + 1)) (304 + 3 * S) 0) (305 + 3 * S) i) (306 + 3 * S) k
end mg_92
