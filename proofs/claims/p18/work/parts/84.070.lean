section mg_92
def gaC (c : Nat → Int) (F : Nat) : Nat → Int := updI (updI (updI c 11 ((F : Int) + 1)) 12 ((F : Int) + 1)) 13 ((F : Int) + 1)
def gaD (C : Nat → Nat → Int) (F : Nat) (a t b : Int) : Nat → Nat → Int := updC (updC (updC C 3 (updI (C 3) F a)) 4 (updI (C 4) F t)) 5 (updI (C 5) F b)
end mg_92
