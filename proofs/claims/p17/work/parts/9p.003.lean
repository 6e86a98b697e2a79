section AT2
variable {sr sr' : Nat → Int} {d d' : Nat}
theorem endC_d {c : Int} (h : endC c) : ¬ dgP c := endC_nd h
theorem stL_lt {S : Nat → Option mO} {sr : Nat → Int} {n : Nat} {it : Bool} {o a hi p E : Nat} (h : stL S sr n it o a hi p E) : p < E := stsT_lt (stL_tT n it o a hi p E h)
end AT2
