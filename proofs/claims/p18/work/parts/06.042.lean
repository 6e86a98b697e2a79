section mg_25
def stepR (sr : Nat → Int) (len : Int) (take inner : PS → Bool × PS) (it bh : Bool) (q : PS) : Bool × PS :=
  if stepOk (hereF sr len q.1) it bh q then stepG sr len take inner (hereF sr len q.1) (advF q) else (false, failF q.1 q)
theorem bzF : some (Value.int (J 0)) = some (Value.int (J (bz false))) := by rw [bz_f (by decide)]
theorem bzT : some (Value.int (J 1)) = some (Value.int (J (bz true))) := by rw [bz_t rfl]
theorem bzf {b : Bool} (h : ¬ b = true) : some (Value.int (J 0)) = some (Value.int (J (bz b))) := by rw [bz_f h]
theorem bzt {b : Bool} (h : b = true) : some (Value.int (J 1)) = some (Value.int (J (bz b))) := by rw [bz_t h]
end mg_25
