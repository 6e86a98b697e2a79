section mg_92
def tsC (c : Nat → Int) (q : Nat) (s p : Int) : Nat → Int := updI (updI (updI (updI (updI (updI (updI (updI (updI c (488 + 9 * q) 0) (489 + 9 * q) 0) (490 + 9 * q) p) (491 + 9 * q) 0) (492 + 9 * q) 0) (493 + 9 * q) s) (494 + 9 * q) s) (495 + 9 * q) 0) (496 + 9 * q) 0
def tsG (g : Nat → Option Nat) (q : Nat) (r : Option Nat) : Nat → Option Nat := updO (updO g (180 + 2 * q) r) (181 + 2 * q) r
end mg_92
