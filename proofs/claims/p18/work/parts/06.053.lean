section mg_27
def wholeR (len : Int) (q : PS) : Bool × PS := if q.1 = len ∧ q.2.2.2.2 = 0 then (true, q) else (false, failF q.1 q)
end mg_27
