section mg_b8
section FL
variable {m pool c : Nat → Int} {S : Nat → Option mO} {C : Nat → Nat → Int} {nm : Nat → Int64} {g : Nat → Option Nat}
/-- a fault's number, on both sides -/
theorem fn_eq (hC : CR m pool S c C nm g) (hT : TKR m pool c S g 99) (hok : mOk m) {t k : Int} (ht : t = -1 ∨ (0 ≤ t ∧ t ≤ m 3 - 1)) {N F : Nat} (hN : m 4 = (N : Int)) (hF : c 11 = (F : Int)) (hk : 0 ≤ k ∧ k < manyV m N t) : fnF c (C 5) (C 3) F t k = faultAtV m N t k 0 ∧ fgF c (C 5) (C 4) F t k = faultAtV m N t k 1 := by
  have k2 := hok.2.2.2.1
  obtain ⟨-, -, -, -, -, -, ⟨F', f0⟩, -⟩ := id hC
  obtain rfl : F' = F := by have := f0.1.1; omega
  have fb := f0.2.1
  have at' : ∀ {p : Nat} {f : Nat → Int}, p < F' → atF 90 (F' : Int) f (p : Int) = f p := fun {p f} hp => by
    unfold atF
    rw [if_pos ⟨by omega, by omega, by omega⟩]; rfl
  rcases ht with rfl | ht
  · rw [mv_call] at hk
    obtain ⟨p, e, hp, x1, x2⟩ := pw_call hC hF hk
    rw [(fnF_0 of_call).1, (fnF_0 of_call).2, fv_call, fv_call, e, at' hp, if_neg (show ¬ (p : Int) < 0 by omega), at' hp, x1, x2]
    refine ⟨?_, ?_⟩ <;> congr 1 <;> omega
  · obtain ⟨i, rfl⟩ : ∃ i : Nat, t = i := ⟨t.toNat, by omega⟩
    have oe := of_eq hC hT hok (i := i) (by omega)
    rw [mv_task] at hk
    by_cases o : m (1618 + 72 * i) = 0
    · rw [if_pos o] at hk
      obtain ⟨p, e, hp, x1, x2⟩ := pw_task hC (i := i) (k := k) hN hF ⟨hk.1, by omega⟩
      rw [(fnF_0 (oe.trans o)).1, (fnF_0 (oe.trans o)).2, fv_0 o, fv_0 o, e, at' hp, if_neg (show ¬ (p : Int) < 0 by omega), at' hp, x1, x2]
      refine ⟨?_, ?_⟩ <;> congr 1 <;> omega
    · rw [if_neg o] at hk
      have o' : ¬ ofF c (i : Int) = 0 := by rw [oe]; exact o
      by_cases z : k = 0
      · subst z
        rw [(fnF_1 o').1, (fnF_1 o').2, fv_1 o, fv_1 o, oe, if_pos (show (0 : Int) = 0 from rfl), if_neg (show ¬ (1 : Int) = 0 by decide)]
        exact ⟨rfl, rfl⟩
      · obtain ⟨p, e, hp, x1, x2⟩ := pw_task hC (i := i) (k := k - 1) hN hF ⟨by omega, by omega⟩
        rw [(fnF_2 o' z).1, (fnF_2 o' z).2, fv_2 o z, fv_2 o z, e, at' hp, if_neg (show ¬ (p : Int) < 0 by omega), at' hp, x1, x2]
        refine ⟨?_, ?_⟩ <;> congr 1 <;> omega
end FL
end mg_b8
