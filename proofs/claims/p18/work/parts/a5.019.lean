section mg_b1
section TO
variable {G : mG} {l : Launch} {r : Nat} {b : Int} {pool : Nat → Int} {S : Nat → Option mO} {h0 : mH}
end TO
end mg_b1
section mg_b2
/-! ===== a turn's steps, on both sides ===== -/
theorem psi_out {m : Nat → Int} {k j : Nat} {v : Int} (h0 : m 0 ≤ 60) (h1 : m 1 ≤ 90) (hj : 1608 ≤ j) : psi k (updI m j v) = psi k m := by
  have e : ∀ q, q < 1608 → updI m j v q = m q := fun q hq => updI_n (by omega)
  have a : cnt (cngB (updI m j v)) (m 1).toNat = cnt (cngB m) (m 1).toNat := cnt_congr _ (fun q hq => by
    show decide (updI m j v (258 + 14 * q) = 1) = decide (m (258 + 14 * q) = 1)
    rw [e _ (by omega)])
  have b : cnt (openB (updI m j v)) (m 0).toNat = cnt (openB m) (m 0).toNat := cnt_congr _ (fun q hq => by unfold openB; rw [e _ (by omega)])
  unfold psi phi
  rw [e 0 (by omega), e 1 (by omega), e 2 (by omega), a, b]
theorem TKR.ch {m m' pool c c' : Nat → Int} {S : Nat → Option mO} {g g' : Nat → Option Nat} {q : Nat} (h : TKR m pool c S g q) (k3 : m 3 ≤ 10) (hn : ∀ u : Nat, (u : Int) < m 3 → ∃ n : Nat, m (1619 + 72 * u) = n ∧ n ≤ 60) (h3 : m' 3 = m 3) (h7 : c' 3 = m' 7) (hm : ∀ j, 1608 ≤ j → j < 2328 → (∀ t : Nat, j ≠ 1614 + 72 * t) → (j < 1608 + 72 * q ∨ 1680 + 72 * q ≤ j) → m' j = m j) (hc : ∀ j, 488 ≤ j → (∀ t : Nat, j ≠ 496 + 9 * t) → (j < 488 + 9 * q ∨ 497 + 9 * q ≤ j) → c' j = c j) (hg : ∀ j, 180 ≤ j → ¬ j = 181 + 2 * q → g' j = g j) (ha : (q : Int) < m 3 → tkA m' pool c' S g' q) : TKR m' pool c' S g' q := by
  refine ⟨h7, fun u hu => ?_⟩
  rw [h3] at hu
  by_cases w : u = q
  · subst w; exact ⟨ha hu, fun z => absurd rfl z⟩
  · obtain ⟨b1, b2⟩ := h.2 u hu
    exact ⟨tkA_c b1 (fun j x y z _ _ => hm j (by omega) (by omega) (fun t w => by omega) (by omega)) (fun j x y z _ => hc j (by omega) (fun t w => by omega) (by omega)) (hg _ (by omega) (by omega)), fun z => tkC_c (b2 z) (fun j x y w => hm j (by omega) (by omega) (fun t w => by omega) (by omega)) (hn u hu) (hc _ (by omega) (fun t w => by omega) (by omega)) (hg _ (by omega) (by omega))⟩
theorem TKR.fin {m pool c : Nat → Int} {S : Nat → Option mO} {g : Nat → Option Nat} {q : Nat} (h : TKR m pool c S g q) (k : tkC m pool c S g q) : TKR m pool c S g 99 := ⟨h.1, fun u hu => ⟨(h.2 u hu).1, fun _ => by
  by_cases w : u = q
  · subst w; exact k
  · exact (h.2 u hu).2 w⟩⟩
theorem TkM.nn {m pool : Nat → Int} {t : Nat} (h : TkM m pool t) : ∀ u : Nat, (u : Int) < m 3 → ∃ n : Nat, m (1619 + 72 * u) = n ∧ n ≤ 60 := fun u hu => by
  obtain ⟨-, -, -, -, -, -, ⟨n, a7, a8⟩, -⟩ := (h.2 u hu).1
  exact ⟨n, a7, a8.1.2⟩
/-- how a turn leaves the world -/
def TNE (r : Nat) (pool : Nat → Int) (S : Nat → Option mO) (h0 : mH) (b : Int) (c : Nat → Int) (m' : Nat → Int) (ps : Int) (k' : Nat) (h' : mH) : Prop :=
  ∃ f' c' C' nm' g', isR h' r b 0 f' c' C' nm' g' ∧ Same (rBlk r) h0 h' ∧ CR m' pool S c' C' nm' g' ∧ TKR m' pool c' S g' 99 ∧ c' 4 = c 4 ∧ psi k' m' ≤ ps
section TL
variable {G : mG} {l : Launch} {r : Nat} {b : Int} {pool : Nat → Int} {S : Nat → Option mO} {h0 : mH}
end TL
end mg_b2
