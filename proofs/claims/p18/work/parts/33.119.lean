section mg_52
def ownF (c : Nat → Int) (i : Int) : Int := if 100 ≤ i then (if inW c 1 60 (i - 100) then c (305 + 3 * (i - 100).toNat) else -1) else (if inW c 0 90 i then c (33 + 3 * i.toNat) else -1)
theorem ownF_r {c : Nat → Int} (hc : ∀ q, InR (c q)) (i : Int) : InR (ownF c i) := by
  unfold ownF
  repeat' split
  all_goals first | exact hc _ | decide
end mg_52
