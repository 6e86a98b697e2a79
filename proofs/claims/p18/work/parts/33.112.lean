section mg_51
set_option maxHeartbeats 4000000 in
set_option maxRecDepth 100000 in
theorem ci_drop {G : mG} {l : Launch} (d : Nat) {h : mH} {a n Z : Nat} {f : Nat → Int} (I : isI h a n (Z : Int) f) {x : Int} (hx : InR x) (hn : n ≤ 1000) (hZ : Z ≤ n) (hf : ∀ q, InR (f q)) : RUNM G l (d) mX1_drop [.ref a, .int (J x)] h (fun v h' => v = none ∧ isI h' a n (cnt (notB x f) Z) (drA x f Z) ∧ Same (iBlk a) h h') := by
  refine RUNM.of (by decide +kernel) (Nat.le_of_ble_eq_true rfl) ?_
  refine rj_iconst (pc := 0) dX1_drop_0 ?_
  refine r_istore_n (pc := 1) dX1_drop_1 (Nat.le_of_ble_eq_true rfl) ?_
  dsimp only [lsSt, List.set, mLs, mEnt]
  refine rj_iconst (pc := 2) dX1_drop_2 ?_
  refine r_istore_n (pc := 3) dX1_drop_3 (Nat.le_of_ble_eq_true rfl) ?_
  dsimp only [lsSt, List.set, mLs, mEnt]
  exact L_drop d hx hn hZ hf Z 0 h I (by omega)
end mg_51
section mg_52
/-! ===== the class: a thing, a scope, a task by its number ===== -/
abbrev inW (c : Nat → Int) (k n : Nat) (i : Int) : Prop := 0 ≤ i ∧ i < c k ∧ i < n
def thAt (w : Nat) (c : Nat → Int) (i : Int) : Option Nat := if inW c 0 90 i then some (wT w i.toNat) else none
def scAt (w : Nat) (c : Nat → Int) (i : Int) : Option Nat := if inW c 1 60 i then some (wS w i.toNat) else none
def tkAt (w : Nat) (c : Nat → Int) (i : Int) : Option Nat := if inW c 2 10 i then some (wK w i.toNat) else none
section AT
variable {w : Nat} {c : Nat → Int} {i : Int} {v : Option Value}
theorem thAt_p (h : inW c 0 90 i) : thAt w c i = some (wT w i.toNat) := by unfold thAt; rw [if_pos h]
theorem thAt_n (h : ¬ inW c 0 90 i) : thAt w c i = none := by unfold thAt; rw [if_neg h]
theorem thAt_P (h : inW c 0 90 i) (q : v = some (va_rf (thAt w c i))) : v = some (.ref (wT w i.toNat)) := by rw [q, thAt_p h]; rfl
theorem thAt_N (h : ¬ inW c 0 90 i) (q : v = some (va_rf (thAt w c i))) : v = some .null := by rw [q, thAt_n h]; rfl
theorem scAt_p (h : inW c 1 60 i) : scAt w c i = some (wS w i.toNat) := by unfold scAt; rw [if_pos h]
theorem scAt_n (h : ¬ inW c 1 60 i) : scAt w c i = none := by unfold scAt; rw [if_neg h]
theorem scAt_P (h : inW c 1 60 i) (q : v = some (va_rf (scAt w c i))) : v = some (.ref (wS w i.toNat)) := by rw [q, scAt_p h]; rfl
theorem scAt_N (h : ¬ inW c 1 60 i) (q : v = some (va_rf (scAt w c i))) : v = some .null := by rw [q, scAt_n h]; rfl
theorem tkAt_p (h : inW c 2 10 i) : tkAt w c i = some (wK w i.toNat) := by unfold tkAt; rw [if_pos h]
theorem tkAt_n (h : ¬ inW c 2 10 i) : tkAt w c i = none := by unfold tkAt; rw [if_neg h]
theorem tkAt_P (h : inW c 2 10 i) (q : v = some (va_rf (tkAt w c i))) : v = some (.ref (wK w i.toNat)) := by rw [q, tkAt_p h]; rfl
theorem tkAt_N (h : ¬ inW c 2 10 i) (q : v = some (va_rf (tkAt w c i))) : v = some .null := by rw [q, tkAt_n h]; rfl
end AT
end mg_52
