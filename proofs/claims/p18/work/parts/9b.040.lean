section mg_9k
def mnP (p z : Int) (f : Nat → Int) : Int := if hereC p z f = 45 then p + 1 else p
def rvV (p z : Int) (f : Nat → Int) : Int := if hereC p z f = 45 then -(rfL z f 5 (mnP p z f) 0).1 else (rfL z f 5 (mnP p z f) 0).1
end mg_9k
