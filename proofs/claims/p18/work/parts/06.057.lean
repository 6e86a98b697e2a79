section mg_27
def movesM (m : Nat → Int) (t : Nat) (s : Int) : Nat → Int := updI (updI (updI m (259 + 14 * t) s) 6 (m 6 + 1)) (260 + 14 * t) (m 6 + 1)
end mg_27
