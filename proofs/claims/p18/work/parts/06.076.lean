section mg_30
def gathersM (m : Nat → Int) (sink f t : Int) : Nat → Int :=
  if sink < 0 then updI (updI (updI m (2688 + 2 * m 5).toNat f) (2689 + 2 * m 5).toNat t) 5 (m 5 + 1)
  else updI (updI (updI (updI m (2328 + 3 * m 4).toNat sink) (2329 + 3 * m 4).toNat f) (2330 + 3 * m 4).toNat t) 4 (m 4 + 1)
end mg_30
