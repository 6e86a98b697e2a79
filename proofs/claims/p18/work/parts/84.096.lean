section mg_98
def oiC (c : Nat → Int) (S Z q : Nat) : Nat → Int := updI (adE (asC c S (c (494 + 9 * q)) (q : Int)) Z) (494 + 9 * q) (S : Int)
end mg_98
