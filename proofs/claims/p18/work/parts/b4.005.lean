section mg_b5
end mg_b5
section mg_b6
/-! ===== calls that end things, ticks: both sides ===== -/
theorem Same.join {P : Nat → Prop} {h0 h1 h2 : mH} (a : Same P h0 h1) (b : Same P h0 h2) : Same P h1 h2 := ⟨b.1.trans a.1.symm, b.2.1.trans a.2.1.symm, b.2.2.1.trans a.2.2.1.symm, fun q hq => (b.2.2.2 q hq).trans (a.2.2.2 q hq).symm⟩
theorem TKR.kq {m m' pool c c' : Nat → Int} {S : Nat → Option mO} {g g' : Nat → Option Nat} {t0 : Nat} (h : TKR m pool c S g t0) (k3 : m 3 ≤ 10) (hn : ∀ q : Nat, (q : Int) < m 3 → ∃ n : Nat, m (1619 + 72 * q) = n ∧ n ≤ 60) (k1 : ∀ j, 180 ≤ j → g' j = g j) (k2 : ∀ q, 488 ≤ q → (∀ t : Nat, q ≠ 496 + 9 * t) → c' q = c q) (k30 : c' 3 = c 3) (h3 : m' 3 = m 3) (h7 : m' 7 = m 7) (hm : ∀ q, 1608 ≤ q → q < 2328 → (∀ t : Nat, q ≠ 1614 + 72 * t) → m' q = m q) : TKR m' pool c' S g' t0 := by
  obtain ⟨a, b⟩ := h
  refine ⟨by rw [k30, h7]; exact a, fun q hq => ?_⟩
  rw [h3] at hq
  obtain ⟨b1, b2⟩ := b q hq
  exact ⟨tkA_c b1 (fun j x y z _ _ => hm j (by omega) (by omega) (fun t w => by omega)) (fun j x y z _ => k2 j (by omega) (fun t w => by omega)) (k1 _ (by omega)), fun z => tkC_c (b2 z) (fun j x y w => hm j (by omega) (by omega) (fun t w => by omega)) (hn q hq) (k2 _ (by omega) (fun t w => by omega)) (k1 _ (by omega))⟩
theorem fcF_call {m pool c : Nat → Int} {S : Nat → Option mO} {C : Nat → Nat → Int} {nm : Nat → Int64} {g : Nat → Option Nat} {F : Nat} (h : CR m pool S c C nm g) (hF : c 11 = (F : Int)) : fcF c (C 5) F (-1) = m 5 := by
  obtain ⟨-, -, -, -, -, -, ⟨F', f0⟩, -, -⟩ := h
  obtain rfl : F' = F := by have := f0.1.1; omega
  have of0 : ofF c (-1) = 0 := by
    unfold ofF
    rw [if_neg]
    intro w
    have := w.1
    omega
  unfold fcF b0F
  rw [of0, if_pos rfl, if_pos rfl, Int.add_zero, f0.2.2.2.2.2.1]
theorem CR.fa {m pool c : Nat → Int} {S : Nat → Option mO} {C : Nat → Nat → Int} {nm : Nat → Int64} {g : Nat → Option Nat} (h : CR m pool S c C nm g) (hok : mOk m) : ∃ F : Nat, (∀ q, InR (c q)) ∧ c 11 = (F : Int) ∧ c 12 = (F : Int) ∧ c 13 = (F : Int) ∧ F ≤ 90 ∧ (0 ≤ c 4 ∧ c 4 ≤ (F : Int)) ∧ ∀ q, InR (C 5 q) := by
  obtain ⟨-, -, -, -, -, -, ⟨F, f0⟩, -, R⟩ := h
  have k2 := hok.2.2.2.1
  have := f0.2.1
  exact ⟨F, R.1, f0.1.1, f0.1.2.1, f0.1.2.2, by omega, f0.2.2.1, R.2 5⟩
section BO
variable {G : mG} {l : Launch} {r : Nat} {pool : Nat → Int} {S : Nat → Option mO} {h0 : mH}
end BO
end mg_b6
