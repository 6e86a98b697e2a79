section RDNS
variable {G : mG} {l : Launch} {z : Int} {f : Nat → Int} {a n : Nat}
theorem mbP_46 {kd br gd o : Int} (h : mbP kd br gd o) (k : ¬ kd = 43 ∧ ¬ kd = 33 ∧ ¬ kd = 97 ∧ ¬ kd = 120 ∧ ¬ kd = 109 ∧ ¬ kd = 107 ∧ ¬ kd = 63 ∧ ¬ kd = 40 ∧ ¬ kd = 41) : kd = 46 := by
  obtain ⟨k1, k2, k3, k4, k5, k6, k7, k8, k9⟩ := k
  rcases h with (k | k | k | k | k | k | k) | k | k | k
  · exact absurd k k1
  · exact absurd k k2
  · exact absurd k k3
  · exact absurd k k4
  · exact absurd k k5
  · exact absurd k k6
  · exact k
  · exact absurd k.1 k7
  · exact absurd k.1 k8
  · exact absurd k.1 k9
theorem mbP_n {kd br gd o : Int} (h : mbP kd br gd o) : ¬ kd = -1 := fun g => by
  subst g
  rcases h with (k | k | k | k | k | k | k) | k | k | k
  all_goals first | exact absurd k (by decide) | exact absurd k.1 (by decide)
theorem mbP_63 {br o : Int} (h : mbP 63 br 1 o) : False := by
  rcases h with (k | k | k | k | k | k | k) | k | k | k
  all_goals first | exact absurd k (by decide) | exact absurd k.1 (by decide) | exact absurd k.2 (by decide)
end RDNS
