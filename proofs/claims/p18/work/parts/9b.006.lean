section mg_9c
def gsC (c : Nat → Int) (u : Nat) (k : Int) : Nat → Int := updI (updI c (304 + 3 * u) (if u = 0 then 0 else 1)) 10 k
end mg_9c
