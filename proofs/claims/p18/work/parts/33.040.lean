section mg_39
def toldV (m : Nat → Int) (f6 f18 : Int) (N C T : Nat) (k : Int) : Int := if k = 0 then m 0 else if k = 1 then cnt (openB m) C else if k = 2 then m 1 else if k = 3 then cnt (heldB m) N else if k = 4 then m 3 else if k = 5 then cnt (readyB m) T else if k = 6 then m 7 else if k = 7 then m 2 else if k = 8 then f6 else if k = 9 then f18 else -1
end mg_39
