section mg_75
def takeF (m pool tape : Nat → Int) (a : Int) (len E : Nat) (r : Bool × PS) : Int × (Nat → Int) × (Nat → Int) :=
  if (wR len r).1 = true then (if m 1 = 90 then (-4, m, pool) else (if 0 ≤ hbL m tape 0 E (m 1).toNat 0 then (-3, m, pool) else
    (m 1, if E = len then (takesM m tape (m 1).toNat a 0 E 0 0, pool) else (takesM (updI m 8 (m 8 + (len - (E + 1) : Nat) + 1)) tape (m 1).toNat a 0 E (m 8) (m 8 + len - E - 1), pooledP pool tape (m 8).toNat (E + 1) len))))
  else (-100 - (wR len r).2.2.1, m, pool)
end mg_75
