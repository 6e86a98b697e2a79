/-! ===== plan on both; what is told of the sheets and of steps, whatever it is ===== -/
theorem chL_mono {S S' : Nat → Option mO} (hS : ∀ a o, S a = some o → S' a = some o) : ∀ (n : Nat) (r : Option Nat), chL S n r → chL S' n r
  | 0, _, h => h
  | n + 1, _, ⟨a, kd, num, vl, y, inn, nx, e, h1, h2⟩ => ⟨a, kd, num, vl, y, inn, nx, e, hS a _ h1, chL_mono hS n nx h2⟩
theorem stK_o {S : Nat → Option mO} {sr : Nat → Int} {cl : Nat → Nat → Nat → Nat → Prop} {it : Bool} {o o' a hi p e : Nat} {nx : Option Nat} (k : stK S sr cl it o a nx hi p e o') : (∃ (kd num vl : Int) (y : Int64) (inn : Option Nat), S a = some (stO kd num vl y inn nx)) ∧ p < e := by
  rcases k with ⟨k, -⟩ | ⟨-, -, -, e1, -, num, vl, y, inn, h⟩ | ⟨-, -, -, e1, -, num, vl, y, inn, h⟩
  · refine ⟨?_, stepQ_lt (stQ_t (st := fun _ _ => True) (fun _ _ _ _ => trivial) k)⟩
    rcases k with ⟨-, num, vl, y, inn, h, -⟩ | ⟨-, -, -, -, q, b, y, nx2, h, -⟩
    · exact ⟨_, num, vl, y, inn, h⟩
    · exact ⟨_, _, _, y, _, h⟩
  · exact ⟨⟨_, num, vl, y, inn, h⟩, by omega⟩
  · exact ⟨⟨_, num, vl, y, inn, h⟩, by omega⟩
theorem stL_ch {S : Nat → Option mO} {sr : Nat → Int} : ∀ (n : Nat) (it : Bool) (o a hi p E : Nat), stL S sr n it o a hi p E → ∃ k, chL S k (some a) ∧ p + k ≤ E
  | 0, _, _, _, _, _, _, h => h.elim
  | n + 1, it, o, a, hi, p, E, h => by
    obtain ⟨nx, mid, e, o', h1, h2, h3, h4⟩ := h
    obtain ⟨⟨kd, num, vl, y, inn, h5⟩, h6⟩ := stK_o h1
    rcases h4 with ⟨rfl, rfl⟩ | ⟨h7, -, b, rfl, -, h8⟩
    · exact ⟨1, ⟨a, kd, num, vl, y, inn, none, rfl, h5, rfl⟩, by omega⟩
    · obtain ⟨k, k1, k2⟩ := stL_ch n it o' b hi (e + 1) E h8
      exact ⟨k + 1, ⟨a, kd, num, vl, y, inn, some b, rfl, h5, k1⟩, by omega⟩
theorem tpO_ch {S : Nat → Option mO} {sr : Nat → Int} {r : Option Nat} {P E : Nat} (h : tpO S sr r P E) : ∃ k, chL S k r ∧ P + k ≤ E := by
  rcases h with ⟨rfl, rfl⟩ | ⟨b, hi, n, rfl, h⟩
  · exact ⟨0, rfl, by omega⟩
  · exact stL_ch n _ _ _ _ _ _ h
