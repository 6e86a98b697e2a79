section mg_93
def mvC (c : Nat → Int) (q : Nat) (i k : Int) : Nat → Int := updI (updI (updI c (33 + 3 * q) i) 10 k) 10 (k + 1)
def mvD (C : Nat → Nat → Int) (Z q : Nat) : Nat → Nat → Int := updC (updC C 2 (drA (q : Int) (C 2) Z)) 2 (updI (drA (q : Int) (C 2) Z) (cnt (notB (q : Int) (C 2)) Z).toNat (q : Int))
end mg_93
