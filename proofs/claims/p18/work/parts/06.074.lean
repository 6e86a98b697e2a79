section mg_30
def takesM (m rc : Nat → Int) (N : Nat) (o : Int) (fr to : Nat) (p e : Int) : Nat → Int :=
  updI (updI (updI (namesM (updI (updI (updI (updI (updI m 1 (N + 1)) (258 + 14 * N) 0) (259 + 14 * N) o) 6 (m 6 + 1)) (260 + 14 * N) (m 6 + 1)) rc N fr to) (262 + 14 * N) p) (263 + 14 * N) e) (264 + 14 * N) (-5)
end mg_30
