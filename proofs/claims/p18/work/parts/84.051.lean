section mg_89
def fcF (c : Nat → Int) (f : Nat → Int) (F : Nat) (i : Int) : Int := cnt (gbB (b0F c i) f i) F + (if ofF c i = 0 then 0 else 1)
end mg_89
