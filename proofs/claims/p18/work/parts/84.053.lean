section mg_89
def fnF (c : Nat → Int) (f g : Nat → Int) (F : Nat) (i k : Int) : Int := if ¬ ofF c i = 0 ∧ k = 0 then ofF c i else atF 90 (F : Int) g (pwF c f F i (if ofF c i = 0 then k else k - 1))
def fgF (c : Nat → Int) (f g : Nat → Int) (F : Nat) (i k : Int) : Int := if ¬ ofF c i = 0 ∧ k = 0 then -1 else if pwF c f F i (if ofF c i = 0 then k else k - 1) < 0 then -1 else atF 90 (F : Int) g (pwF c f F i (if ofF c i = 0 then k else k - 1))
end mg_89
