section mg_24
def bnd : Nat → Int
  | 0 => 99999
  | 1 => 9999
  | 2 => 999
  | 3 => 99
  | 4 => 9
  | _ => 0
theorem bnd_s : ∀ n, n < 5 → 10 * bnd (n + 1) + 9 ≤ bnd n := by decide
theorem bnd_0 : ∀ n, 0 ≤ bnd n ∧ bnd n ≤ 99999 := fun n => by unfold bnd; split <;> decide
def numL (sr : Nat → Int) (len : Int) : Nat → PS → PS
  | 0, q => q
  | n + 1, q => if 48 ≤ hereF sr len q.1 ∧ hereF sr len q.1 ≤ 57 then numL sr len n (q.1 + 1, q.2.1, 10 * q.2.2.1 + hereF sr len q.1 - 48, q.2.2.2) else q
theorem numL_ok {sr : Nat → Int} {len : Int} : ∀ (n : Nat) (q : PS), n ≤ 5 → psOk len q → q.2.2.1 ≤ bnd n → psOk len (numL sr len n q)
  | 0, q, _, hq, _ => hq
  | n + 1, q, hn, hq, hf => by
    unfold numL
    split
    · rename_i h
      have hl := here_lt (sr := sr) (len := len) (a := q.1) (by omega)
      have hb := bnd_s n (by omega)
      have h0 := bnd_0 n
      obtain ⟨a, b, c, d, e, f, g, i⟩ := hq
      refine numL_ok n _ (by omega) ⟨?_, ?_, c, d, ?_, ?_, g, ?_⟩ ?_ <;> dsimp only <;> omega
    · exact hq
def finF (b l m : Int) (q : PS) : PS := if l ≤ q.2.2.1 ∧ q.2.2.1 ≤ m then q else failF b q
def numberF (sr : Nat → Int) (len : Int) (n : Nat) (l m : Int) (q : PS) : PS := if 48 ≤ hereF sr len q.1 ∧ hereF sr len q.1 ≤ 57 then finF q.1 l m (numL sr len n (q.1, q.2.1, 0, q.2.2.2)) else failF q.1 q
abbrev numberB (sr : Nat → Int) (len : Int) (n : Nat) (l m : Int) (q : PS) : Prop := (48 ≤ hereF sr len q.1 ∧ hereF sr len q.1 ≤ 57) ∧ l ≤ (numL sr len n (q.1, q.2.1, 0, q.2.2.2)).2.2.1 ∧ (numL sr len n (q.1, q.2.1, 0, q.2.2.2)).2.2.1 ≤ m
end mg_24
