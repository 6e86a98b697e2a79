section mg_68
/-! ===== the reference: steps and closers as relations, with a bound on how deep closers close others ===== -/
def digR (pool : Nat → Int) (p n : Nat) : Prop := n ≤ 20 ∧ stopsBy pool n (if pool (p) = 45 then p + 1 else p)
end mg_68
