section mg_23
def opensM (m : Nat → Int) (C : Nat) (p t : Int) : Nat → Int := updI (updI (updI (updI (updI (updI m 0 (C + 1)) (18 + 4 * C) 0) (19 + 4 * C) p) 6 (m 6 + 1)) (20 + 4 * C) (m 6 + 1)) (21 + 4 * C) t
end mg_23
