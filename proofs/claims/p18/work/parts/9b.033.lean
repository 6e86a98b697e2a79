section mg_9j
end mg_9j
section mg_9k
/-! ===== the class: its reader, the small ones, on any tape ===== -/
def ftE (e i : Int) : Int := if e < 0 then i else e
theorem ftE_r {e i : Int} (he : InR e) (hi : InR i) : InR (ftE e i) := by unfold ftE; split <;> assumption
theorem hereC_r {p z : Int} {f : Nat → Int} (hf : ∀ q, InR (f q)) : InR (hereC p z f) := by
  unfold hereC; split
  · exact hf _
  · decide
end mg_9k
