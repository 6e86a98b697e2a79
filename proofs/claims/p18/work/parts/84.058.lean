section mg_90
noncomputable def lnL (y : Int64) : Nat → Nat → Int
  | 0, t => t
  | n + 1, t => if letV y t = 0 then (t : Int) else lnL y n (t + 1)
end mg_90
