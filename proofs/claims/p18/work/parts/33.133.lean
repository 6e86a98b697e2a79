section mg_54
def w0 : Nat → Int := fun _ => 0
def wc0 : Nat → Int := updI (updI (updI (updI w0 8 8) 1 1) 305 (-5)) 306 (-5)
def wC0 : Nat → Nat → Int := updC (fun _ => w0) 0 (zerF 8 w0)
def wn0 : Nat → Int64 := fun _ => 0
def wg0 : Nat → Option Nat := fun _ => none
theorem w0_r (q : Nat) : InR (w0 q) := by unfold w0; decide
theorem fl1 {a q : Nat} (h : q < 90) : a + 17 + q < a + 107 + 0 := by omega
theorem fl2 {a q : Nat} : a + 17 + q ≠ a + 2 := by omega
theorem fl3 {a q : Nat} (h : q < 90) : a + 17 + q < a + 167 + 0 := by omega
theorem fl4 {a q : Nat} : a + 17 + q ≠ a + 3 := by omega
theorem fl5 {a q : Nat} (h : q < 60) : a + 107 + q < a + 167 + 0 := by omega
theorem fl6 {a q : Nat} : a + 107 + q ≠ a + 3 := by omega
end mg_54
