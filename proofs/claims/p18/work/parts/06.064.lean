section mg_28
def brk (c : Int) : Int := if c = 123 then 1 else if c = 125 then -1 else 0
def behL (pool : Nat → Int) : Nat → Nat → Int → Nat
  | 0, p, _ => p
  | n + 1, p, w => if 0 < w ∨ ¬ pool p = 59 then behL pool n (p + 1) (w + brk (pool p)) else p
end mg_28
