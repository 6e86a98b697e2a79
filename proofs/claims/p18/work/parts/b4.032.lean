section mg_c2
section PN
variable {m c f : Nat → Int} {N C K Z : Nat}
theorem pc_all (hE : ∀ a : Nat, entE m c f N K Z a) (hN : m 1 = (N : Int)) (hK : m 0 = (K : Int)) (hp : parI m K) (hsc : ∀ j, j < Z → 100 ≤ f j → 100 < f j) (hinj : ∀ j k, j < k → k < Z → ¬ f j = f k) {s0 : Nat} : ∀ (n s : Nat) (p : Nat → Int) (k : Nat) (p' : Nat → Int) (k' : Nat), s < K → s0 ≤ s → plR m n s p k p' k' → ∃ R : Nat, (R : Int) ≤ Z + (Z + 2) * visN m N K s (m 6 + 1) ∧ PCS c f Z s0 s Z k k' p p' R
  | 0, s, p, k, p', k', _, _, h => h.elim
  | n + 1, s, p, k, p', k', hs, h0, ⟨j, h⟩ => pc_loop hE hN hK hp hsc hinj hs h0 (fun a p k p' k' h1 h2 h3 => pc_all hE hN hK hp hsc hinj n a p k p' k' h2 (by omega) h3) j _ p k p' k' Z (m 6 + 1) (Nat.le_refl _) (fun j hj _ => ⟨fun _ => hj, fun _ => by have := (hE s).2.2.2.2 j hj; omega⟩) rfl h
end PN
end mg_c2
