section mg_c3
section CT
variable {m m' pool pool' c c' : Nat → Int} {S S' : Nat → Option mO} {C C' : Nat → Nat → Int} {nm nm' : Nat → Int64} {g g' : Nat → Option Nat} {B : Int}
/-- more objects, more texts in the pool -/
theorem ctr_grow (h : CTR m pool S c C nm g) (hI : Inv m pool B) (hT : TkM m pool 99) (hS : ∀ a o, S a = some o → S' a = some o) (hp : ∀ q : Nat, (q : Int) < m 8 → pool' q = pool q) : CTR m pool' S' c C nm g := by
  obtain ⟨⟨n, T, A, K, L, E, F, Gg, R⟩, h3, hK⟩ := h
  have st : ∀ {it : Bool} {n o b hi p E : Nat}, (E : Int) < m 8 → stL S pool n it o b hi p E → stL S' pool' n it o b hi p E := fun {it n o b hi p E} hE k => by
    have y := stL_2 (sr := pool) (sr' := pool') (d := 0) (d' := 0) n it o b hi p E (fun j _ hj => hp j (by omega)) k
    exact stL_S hS n it o b hi p E y
  refine ⟨⟨n, T, A, K, L, E, F, fun t ht => ?_, R⟩, h3, fun q hq => ?_⟩
  · obtain ⟨P, E, e1, e2, e3⟩ := Gg t ht
    obtain ⟨-, -, -, P', E', f1, f2, -, -, f5⟩ := hI.2.2.1 t ht
    obtain rfl : P' = P := by omega
    obtain rfl : E' = E := by omega
    refine ⟨P', E', e1, e2, ?_⟩
    rcases e3 with e3 | ⟨b, hi, n, e4, e5⟩
    · exact Or.inl e3
    · have := stL_lt e5
      rcases f5 with f5 | f5
      · omega
      · exact Or.inr ⟨b, hi, n, e4, st f5.1 e5⟩
  · obtain ⟨⟨a1, a2, a3, a4, a5, a6, b, hi, n, P, E, e1, e2, e3, e4⟩, hC⟩ := hK q hq
    obtain ⟨-, -, -, -, -, -, -, -, P0, E0, f1, f2, f3, -⟩ := (hT.2 q hq).1
    refine ⟨⟨a1, a2, a3, a4, a5, a6, b, hi, n, P, E, e1, e2, e3, st (by omega) e4⟩, fun z z2 => ?_⟩
    obtain ⟨z0, o, p, E', r1, r2, r3, r4, r5⟩ := hC z z2
    refine ⟨z0, o, p, E', r1, r2, r3, r4, ?_⟩
    rcases r5 with r5 | ⟨r5, b', hi', n', r6, r7⟩
    · exact Or.inl r5
    · exact Or.inr ⟨r5, b', hi', n', r6, st (by omega) r7⟩
end CT
end mg_c3
