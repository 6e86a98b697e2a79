section mg_c2
section PN
variable {m c f : Nat → Int} {N C K Z : Nat}
end PN
end mg_c2
section mg_c3
/-! ===== both sides' worlds, kept by the calls ===== -/
def CTR (m pool : Nat → Int) (S : Nat → Option mO) (c : Nat → Int) (C : Nat → Nat → Int) (nm : Nat → Int64) (g : Nat → Option Nat) : Prop := CR m pool S c C nm g ∧ TKR m pool c S g 99
section CT
variable {m m' pool pool' c c' : Nat → Int} {S S' : Nat → Option mO} {C C' : Nat → Nat → Int} {nm nm' : Nat → Int64} {g g' : Nat → Option Nat} {B : Int}
/-- the tasks' cells are not touched -/
theorem ctr_of (h : CTR m pool S c C nm g) (hT : TkM m pool 99) (hok : mOk m) (hC : CR m' pool S c' C' nm' g') (k1 : ∀ j, 180 ≤ j → g' j = g j) (k2 : ∀ q, 488 ≤ q → (∀ t : Nat, q ≠ 496 + 9 * t) → c' q = c q) (k3 : c' 3 = c 3) (h3 : m' 3 = m 3) (h7 : m' 7 = m 7) (hm : ∀ q, 1608 ≤ q → q < 2328 → (∀ t : Nat, q ≠ 1614 + 72 * t) → m' q = m q) : CTR m' pool S c' C' nm' g' :=
  ⟨hC, h.2.kq hok.2.2.2.2.1.2 hT.nn k1 k2 k3 h3 h7 hm⟩
end CT
end mg_c3
