section RDNS
variable {G : mG} {l : Launch} {z : Int} {f : Nat → Int} {a n : Nat}
theorem mbP_so {kd gd : Int} {w o : Nat} {it bh : Bool} {q : PS} (hg : (bh = true → gd = 1) ∧ (bh = false → gd = 0)) (hit : it = true ↔ w = 0 ∧ bh = false) (q3 : q.2.2.2.2 = o) : mbP kd w gd o ↔ stepOk kd it bh q := by
  unfold mbP
  cases hb : bh with
  | true =>
    have g1 := hg.1 hb
    subst g1
    have itf : it = false := by
      cases hi : it with
      | false => rfl
      | true => have := (hit.mp hi).2; rw [hb] at this; cases this
    rw [itf]
    constructor
    · rintro ((k | k | k | k | k | k | k) | k | k | k)
      · exact Or.inl k
      · exact Or.inr (Or.inl k)
      · exact Or.inr (Or.inr (Or.inl k))
      · exact Or.inr (Or.inr (Or.inr (Or.inl k)))
      · exact Or.inr (Or.inr (Or.inr (Or.inr (Or.inl k))))
      · exact Or.inr (Or.inr (Or.inr (Or.inr (Or.inr (Or.inl k)))))
      · exact Or.inr (Or.inr (Or.inr (Or.inr (Or.inr (Or.inr (Or.inl k))))))
      · exact absurd k.2 (by decide)
      · exact absurd k.2.1 (by decide)
      · exact absurd k.2.1 (by decide)
    · rintro (k | k | k | k | k | k | k | ⟨-, k⟩ | ⟨-, k⟩)
      · exact Or.inl (Or.inl k)
      · exact Or.inl (Or.inr (Or.inl k))
      · exact Or.inl (Or.inr (Or.inr (Or.inl k)))
      · exact Or.inl (Or.inr (Or.inr (Or.inr (Or.inl k))))
      · exact Or.inl (Or.inr (Or.inr (Or.inr (Or.inr (Or.inl k)))))
      · exact Or.inl (Or.inr (Or.inr (Or.inr (Or.inr (Or.inr (Or.inl k))))))
      · exact Or.inl (Or.inr (Or.inr (Or.inr (Or.inr (Or.inr (Or.inr k))))))
      · cases k
      · cases k
  | false =>
    have g1 := hg.2 hb
    subst g1
    rw [hb] at hit
    have hw0 : it = true ↔ w = 0 := ⟨fun g => (hit.mp g).1, fun g => hit.mpr ⟨g, rfl⟩⟩
    constructor
    · rintro ((k | k | k | k | k | k | k) | k | k | k)
      · exact Or.inl k
      · exact Or.inr (Or.inl k)
      · exact Or.inr (Or.inr (Or.inl k))
      · exact Or.inr (Or.inr (Or.inr (Or.inl k)))
      · exact Or.inr (Or.inr (Or.inr (Or.inr (Or.inl k))))
      · exact Or.inr (Or.inr (Or.inr (Or.inr (Or.inr (Or.inl k)))))
      · exact Or.inr (Or.inr (Or.inr (Or.inr (Or.inr (Or.inr (Or.inl k))))))
      · exact Or.inr (Or.inr (Or.inr (Or.inr (Or.inr (Or.inr (Or.inr (Or.inl ⟨k.1, rfl⟩)))))))
      · exact Or.inr (Or.inr (Or.inr (Or.inr (Or.inr (Or.inr (Or.inr (Or.inr ⟨Or.inl k.1, hw0.mpr (by omega)⟩)))))))
      · exact Or.inr (Or.inr (Or.inr (Or.inr (Or.inr (Or.inr (Or.inr (Or.inr ⟨Or.inr ⟨k.1, by omega⟩, hw0.mpr (by omega)⟩)))))))
    · rintro (k | k | k | k | k | k | k | ⟨k, -⟩ | ⟨k, k2⟩)
      · exact Or.inl (Or.inl k)
      · exact Or.inl (Or.inr (Or.inl k))
      · exact Or.inl (Or.inr (Or.inr (Or.inl k)))
      · exact Or.inl (Or.inr (Or.inr (Or.inr (Or.inl k))))
      · exact Or.inl (Or.inr (Or.inr (Or.inr (Or.inr (Or.inl k)))))
      · exact Or.inl (Or.inr (Or.inr (Or.inr (Or.inr (Or.inr (Or.inl k))))))
      · exact Or.inl (Or.inr (Or.inr (Or.inr (Or.inr (Or.inr (Or.inr k))))))
      · exact Or.inr (Or.inl ⟨k, rfl⟩)
      · have := hw0.mp k2
        rcases k with k | k
        · exact Or.inr (Or.inr (Or.inl ⟨k, rfl, by omega⟩))
        · exact Or.inr (Or.inr (Or.inr ⟨k.1, rfl, by omega, by have := k.2; omega⟩))
end RDNS
