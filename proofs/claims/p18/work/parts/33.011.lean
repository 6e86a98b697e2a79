section mg_34
def upK (m : Nat → Int) (o : Int) : Nat → Int → Int
  | 0, k => k
  | n + 1, k => if 0 ≤ k ∧ ¬ k = o then upK m o n (m (19 + 4 * k).toNat) else k
def upN (m : Nat → Int) : Nat → Int → Int
  | 0, _ => 0
  | n + 1, k => if 0 ≤ k then 1 + upN m n (m (19 + 4 * k).toNat) else 0
/-- every scope's parent is an elder one, or none (below 0) -/
def parOk (m : Nat → Int) (C : Nat) : Prop := ∀ k : Int, 0 ≤ k → k < C → -5 ≤ m (19 + 4 * k).toNat ∧ m (19 + 4 * k).toNat < k
def belowB (m : Nat → Int) (C : Nat) (o a : Int) : Bool := decide (upK m o C a = o)
end mg_34
