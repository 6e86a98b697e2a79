section mg_26
/-- step, by depth: what it is that a step's own reading stands on -/
def stepN (sr : Nat → Int) (len : Int) : Nat → Int → Bool → Bool → PS → Bool × PS
  | 0, _, _, _, q => (false, q)
  | n + 1, w, it, bh, q => stepR sr len (takeG sr len (stepsR sr len (stepN sr len n (w + 1) false false)) w) (stepN sr len n w false true) it bh q
theorem stepN_p {sr : Nat → Int} {len : Int} : ∀ (n : Nat) (w : Int) (it bh : Bool), psUp len (stepN sr len n w it bh)
  | 0, _, _, _ => fun q hq => ⟨hq, Int.le_refl _⟩
  | n + 1, w, it, bh => by
    have h1 := stepN_p (sr := sr) (len := len) n (w + 1) false false
    have h2 := stepN_p (sr := sr) (len := len) n w false true
    intro q hq
    exact stepR_p (takeG_p (stepsR_p h1)) h2 q hq
end mg_26
