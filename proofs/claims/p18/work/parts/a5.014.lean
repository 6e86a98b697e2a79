section mg_b0
section TF
variable {G : mG} {l : Launch} {r : Nat} {b : Int} {pool : Nat → Int} {S : Nat → Option mO} {h0 : mH}
/-- what a step of a task leaves of the tasks -/
theorem doesIn_out {m m1 : Nat → Int} {B : Int} {q p o e o' kk : Nat} {fl : Int} (hM : Mid m pool B) (hT : TkM m pool q) (hq : (q : Int) < m 3) (hn : m (1619 + 72 * q) = (o : Int) + 1) (hK : stepK pool (stsC pool kk) o p e o') (hD : doesInR pool (clT G l r b pool S h0) (shS G l r b pool S h0 61) m q p fl m1) :
    (∀ j, 1608 ≤ j → j < 2328 → (∀ t : Nat, j ≠ 1614 + 72 * t) → (j < 1619 + 72 * q ∨ 1680 + 72 * q ≤ j) → m1 j = m j) ∧ (fl = 0 → m1 (1619 + 72 * q) = (o' : Int) + 1) := by
  have hok := hM.1.1
  have k0 := hok.2.1
  have k1 := hok.2.2.1
  have k3 := hok.2.2.2.2.1
  obtain ⟨a1, a2, a3, a4, a5, a6, ⟨n, a7, a8⟩, a9, a10⟩ := id (hT.2 q hq).1
  obtain rfl : n = o + 1 := by omega
  have top := a8.2.1 o (by omega)
  obtain ⟨-, -, -, n, n60, nn, E⟩ := hD
  obtain rfl : n = o + 1 := by omega
  rcases E with ⟨x, E⟩ | ⟨x, x2, E⟩ | ⟨x, y, E⟩
  · rcases E with ⟨-, rfl, rfl⟩ | ⟨-, -, rfl, rfl⟩ | ⟨x1, x2, -, x3⟩
    · exact ⟨fun _ _ _ _ _ => rfl, fun w => absurd w (by decide)⟩
    · exact ⟨fun _ _ _ _ _ => rfl, fun w => absurd w (by decide)⟩
    · obtain ⟨o0, o1, o2, o3, o4, o6, oe⟩ := opensM_at (m := m) (C := (m 0).toNat) (p := m (1619 + 72 * q + (o + 1))) (t := (q : Int))
      refine ⟨fun j h1 h2 h3 h4 => ?_, fun _ => ?_⟩
      · rw [x3, updI_n (by omega), updI_n (by omega), oe j (by omega) (by omega) (by omega)]
      · rw [x3, updI_s]
        rcases hK with ⟨z, -⟩ | ⟨-, -, rfl⟩ | ⟨z, -⟩
        · exfalso
          rcases z with (z | z | z | z | z | z | z) | z
          all_goals (have := z.1; omega)
        · rfl
        · omega
  · obtain ⟨-, -, -, -, es⟩ := E
    have fa : ∀ j, 1608 ≤ j → j < 2328 → (∀ t : Nat, j ≠ 1614 + 72 * t) → m1 j = updI m (1619 + 72 * q) (((o + 1 : Nat) : Int) - 1) j := fun j a b d => es.1 j (Or.inr (Or.inr (Or.inr (Or.inr (Or.inr ⟨a, b, d⟩)))))
    refine ⟨fun j h1 h2 h3 h4 => ?_, fun _ => ?_⟩
    · rw [fa j h1 h2 h3, updI_n (by omega)]
    · rw [fa _ (by omega) (by omega) (fun t w => by omega), updI_s]
      rcases hK with ⟨z, -⟩ | ⟨z, -, rfl⟩ | ⟨-, -, z⟩
      · exfalso
        rcases z with (z | z | z | z | z | z | z) | z
        all_goals (have := z.1; omega)
      · omega
      · omega
  · have fw : few m m1 := does_few hok (fun t m' x => by
      obtain ⟨⟨-, -, ev⟩, -, x2⟩ := x
      exact ⟨ev.1 0 (Or.inl rfl), by omega, fun c hc => ev.1 _ (by unfold far; omega), fun k a b d => ev.1 k (fat_far (Or.inr (Or.inr (Or.inr (Or.inr (Or.inr ⟨a, b, d⟩))))))⟩) E
    refine ⟨fun j h1 h2 h3 h4 => fw.2.2.2 j h1 h2 h3, fun _ => ?_⟩
    rw [fw.2.2.2 _ (by omega) (by omega) (fun t w => by omega), hn]
    rcases hK with ⟨-, rfl⟩ | ⟨z, -⟩ | ⟨z, -⟩
    · rfl
    · exact absurd z x
    · exact absurd z y
end TF
end mg_b0
