section mg_9k
end mg_9k
section mg_9l
/-! ===== the class: a name is read, on any tape ===== -/
noncomputable def rnL (z : Int) (f : Nat → Int) : Nat → Int → Int64 → Int64 × Int
  | 0, p, y => (y, p)
  | n + 1, p, y => if 97 ≤ hereC p z f ∧ hereC p z f ≤ 122 then rnL z f n (p + 1) (y <<< ((J 5).toInt64 &&& 63) + (J (hereC p z f - 97 + 1)).toInt64) else rnL z f n p (y <<< ((J 5).toInt64 &&& 63))
theorem hereC_z (z : Int) (f : Nat → Int) : hereC z z f = -1 := by unfold hereC; rw [if_neg (by omega)]
theorem rnL_z {z : Int} {f : Nat → Int} : ∀ (n : Nat) (y : Int64), (rnL z f n z y).2 = z
  | 0, _ => rfl
  | n + 1, y => by rw [rnL, hereC_z, if_neg (by omega)]; exact rnL_z n _
theorem rnL_p {z : Int} {f : Nat → Int} : ∀ (n : Nat) (p : Int) (y : Int64), p ≤ (rnL z f n p y).2 ∧ (rnL z f n p y).2 ≤ p + n
  | 0, p, y => by unfold rnL; dsimp only; omega
  | n + 1, p, y => by
    unfold rnL
    split
    · have := rnL_p (z := z) (f := f) n (p + 1) (y <<< ((J 5).toInt64 &&& 63) + (J (hereC p z f - 97 + 1)).toInt64)
      omega
    · have := rnL_p (z := z) (f := f) n p (y <<< ((J 5).toInt64 &&& 63))
      omega
end mg_9l
