section mg_87
def rpL (c : Nat → Int) (K : Nat) (i : Int) : Nat → Nat → Int
  | 0, _ => -5
  | n + 1, t => if c (489 + 9 * t) = 0 ∧ cnt (raB c t) K = i then (t : Int) else rpL c K i n (t + 1)
end mg_87
