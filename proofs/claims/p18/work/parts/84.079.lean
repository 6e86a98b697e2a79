section mg_94
def tbC (c c2 : Nat → Int) (q : Nat) : Nat → Int := updI (updI (updI (updI (updI (updI (updI (tsC c q (c2 (493 + 9 * q)) (c2 (490 + 9 * q))) (488 + 9 * q) (c2 (488 + 9 * q))) (489 + 9 * q) (c2 (489 + 9 * q))) (491 + 9 * q) (c2 (491 + 9 * q))) (492 + 9 * q) (c2 (492 + 9 * q))) (494 + 9 * q) (c2 (494 + 9 * q))) (495 + 9 * q) (c2 (495 + 9 * q))) (496 + 9 * q) (c2 (496 + 9 * q))
def tbG (g g2 : Nat → Option Nat) (q : Nat) : Nat → Option Nat := updO (tsG g q (g2 (180 + 2 * q))) (181 + 2 * q) (g2 (181 + 2 * q))
theorem tbC_m (c c2 : Nat → Int) (t : Nat) : tbC (mixR c c2 488 (488 + 9 * t)) c2 t = mixR c c2 488 (488 + 9 * (t + 1)) := by
  funext q
  have e : q = 488 + 9 * t ∨ q = 489 + 9 * t ∨ q = 490 + 9 * t ∨ q = 491 + 9 * t ∨ q = 492 + 9 * t ∨ q = 493 + 9 * t ∨ q = 494 + 9 * t ∨ q = 495 + 9 * t ∨ q = 496 + 9 * t ∨ (q < 488 + 9 * t ∨ 496 + 9 * t < q) := by omega
  unfold tbC tsC
  rcases e with e | e | e | e | e | e | e | e | e | e
  all_goals (try subst e)
  all_goals repeat (first | rw [updI_s] | rw [updI_n (by omega)])
  all_goals unfold mixR
  all_goals repeat' split
  all_goals first | rfl | (exfalso; omega)
theorem tbG_m (g g2 : Nat → Option Nat) (t : Nat) : tbG (mixO g g2 180 (180 + 2 * t)) g2 t = mixO g g2 180 (180 + 2 * (t + 1)) := by
  funext q
  unfold tbG tsG updO mixO
  repeat' split
  all_goals first | rfl | (exfalso; omega) | (subst_vars; rfl)
end mg_94
