section mg_9k
def rfL (z : Int) (f : Nat → Int) : Nat → Int → Int → Int × Int
  | 0, p, u => (u, p)
  | n + 1, p, u => if 48 ≤ hereC p z f ∧ hereC p z f ≤ 57 then rfL z f n (p + 1) (u * 10 + hereC p z f - 48) else (u, p)
theorem rfL_p {z : Int} {f : Nat → Int} : ∀ (n : Nat) (p u : Int), p ≤ (rfL z f n p u).2 ∧ (rfL z f n p u).2 ≤ p + n
  | 0, p, u => by unfold rfL; dsimp only; omega
  | n + 1, p, u => by
    unfold rfL
    have y := rfL_p (z := z) (f := f) n (p + 1) (u * 10 + hereC p z f - 48)
    split
    · omega
    · dsimp only; omega
end mg_9k
