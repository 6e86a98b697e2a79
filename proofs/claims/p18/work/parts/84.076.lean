section mg_93
end mg_93
section mg_94
/-! ===== the class: a world becomes another ===== -/
def mixR (c c2 : Nat → Int) (lo hi : Nat) : Nat → Int := fun q => if lo ≤ q ∧ q < hi then c2 q else c q
def mixL (nm nm2 : Nat → Int64) (t : Nat) : Nat → Int64 := fun q => if q < t then nm2 q else nm q
def mixE (g g2 : Nat → Option Nat) (t : Nat) : Nat → Option Nat := fun j => if j < 2 * t ∧ j % 2 = 0 then g2 j else g j
def mixO (g g2 : Nat → Option Nat) (lo hi : Nat) : Nat → Option Nat := fun j => if lo ≤ j ∧ j < hi then g2 j else g j
theorem mixR_0 (c c2 : Nat → Int) (lo : Nat) : mixR c c2 lo lo = c := by
  funext q; unfold mixR; rw [if_neg (by omega)]
theorem mixR_s (c c2 : Nat → Int) {lo hi k : Nat} (h : lo ≤ hi) (e : k = hi) : updI (mixR c c2 lo hi) k (c2 k) = mixR c c2 lo (hi + 1) := by
  subst e; funext q; unfold updI mixR
  repeat' split
  all_goals first | rfl | (exfalso; omega) | (subst_vars; rfl)
theorem mixL_0 (c c2 : Nat → Int64) : mixL c c2 0 = c := by
  funext q; unfold mixL; rw [if_neg (by omega)]
theorem mixL_s (c c2 : Nat → Int64) (t : Nat) : updL (mixL c c2 t) t (c2 t) = mixL c c2 (t + 1) := by
  funext q; unfold updL mixL
  repeat' split
  all_goals first | rfl | (exfalso; omega) | (subst_vars; rfl)
theorem mixE_0 (c c2 : Nat → Option Nat) : mixE c c2 0 = c := by
  funext q; unfold mixE; rw [if_neg (by omega)]
theorem mixE_s (c c2 : Nat → Option Nat) (t : Nat) : updO (mixE c c2 t) (2 * t) (c2 (2 * t)) = mixE c c2 (t + 1) := by
  funext q; unfold updO mixE
  repeat' split
  all_goals first | rfl | (exfalso; omega) | (subst_vars; rfl)
theorem mixO_0 (c c2 : Nat → Option Nat) (lo : Nat) : mixO c c2 lo lo = c := by
  funext q; unfold mixO; rw [if_neg (by omega)]
def thC (c c2 : Nat → Int) (q : Nat) : Nat → Int := updI (updI (updI c (32 + 3 * q) (c2 (32 + 3 * q))) (33 + 3 * q) (c2 (33 + 3 * q))) (34 + 3 * q) (c2 (34 + 3 * q))
def scC (c c2 : Nat → Int) (q : Nat) : Nat → Int := updI (updI (updI c (304 + 3 * q) (c2 (304 + 3 * q))) (305 + 3 * q) (c2 (305 + 3 * q))) (306 + 3 * q) (c2 (306 + 3 * q))
theorem thC_m (c c2 : Nat → Int) (t : Nat) : thC (mixR c c2 32 (32 + 3 * t)) c2 t = mixR c c2 32 (32 + 3 * (t + 1)) := by
  unfold thC
  rw [mixR_s _ _ (by omega) rfl, mixR_s _ _ (by omega) (by omega), mixR_s _ _ (by omega) (by omega)]
  congr 1
theorem scC_m (c c2 : Nat → Int) (t : Nat) : scC (mixR c c2 304 (304 + 3 * t)) c2 t = mixR c c2 304 (304 + 3 * (t + 1)) := by
  unfold scC
  rw [mixR_s _ _ (by omega) rfl, mixR_s _ _ (by omega) (by omega), mixR_s _ _ (by omega) (by omega)]
  congr 1
end mg_94
