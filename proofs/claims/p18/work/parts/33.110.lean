section mg_51
def notB (v : Int) (f : Nat → Int) (q : Nat) : Bool := decide (¬ f q = v)
def drA (v : Int) (f : Nat → Int) : Nat → Nat → Int
  | 0 => f
  | n + 1 => if f n = v then drA v f n else updI (drA v f n) (cnt (notB v f) n).toNat (f n)
theorem drA_n {v : Int} {f : Nat → Int} : ∀ (n q : Nat), n ≤ q → drA v f n q = f q
  | 0, _, _ => rfl
  | n + 1, q, h => by
    have hc := cnt_r (notB v f) n
    unfold drA
    split
    · exact drA_n n q (by omega)
    · rw [updI_n (by omega)]
      exact drA_n n q (by omega)
end mg_51
