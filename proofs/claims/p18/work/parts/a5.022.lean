section mg_b2
section TL
variable {G : mG} {l : Launch} {r : Nat} {b : Int} {pool : Nat → Int} {S : Nat → Option mO} {h0 : mH}
end TL
end mg_b2
section mg_b3
/-! ===== the loop of a turn, on both sides ===== -/
theorem bnd_aux {A Bn : Nat} {x y : Int} (h : x ≤ y + 301) (s : A + 1 ≤ Bn) : x + 400 * (A : Int) ≤ y + 400 * (Bn : Int) := by omega
theorem sub_aux {E e p : Nat} (h : p < e) (s : e ≤ E) : E - (e + 1) + 1 ≤ E - p := by omega
section TT
variable {G : mG} {l : Launch} {r : Nat} {pool : Nat → Int} {S : Nat → Option mO} {h0 : mH}
end TT
end mg_b3
