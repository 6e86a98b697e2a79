/-! ===== a step of a task, on both sides ===== -/
theorem RUNM.ex {G : mG} {l : Launch} {d : Nat} {M : mM} {args : List Value} {h : mH} {Q : Option Value → mH → Prop} (k : RUNM G l d M args h Q) : ∃ v h', Q v h' ∧ RUNM G l d M args h (fun v' h'' => v' = v ∧ h'' = h') := by
  obtain ⟨a, b, v, h', e, q⟩ := k
  exact ⟨v, h', q, a, b, v, h', e, rfl, rfl⟩
/-- what a step of another kind than ( and ) leaves alone -/
def few (m m' : Nat → Int) : Prop := m' 0 = m 0 ∧ m 2 ≤ m' 2 ∧ (∀ c : Nat, c < 60 → m' (18 + 4 * c) = m (18 + 4 * c)) ∧ ∀ k, 1608 ≤ k → k < 2328 → (∀ t : Nat, k ≠ 1614 + 72 * t) → m' k = m k
theorem few.rf {m : Nat → Int} : few m m := ⟨rfl, Int.le_refl _, fun _ _ => rfl, fun _ _ _ _ => rfl⟩
theorem stp_few {m m' pool : Nat → Int} {p : Nat} {s2 f : Int} {cl : (Nat → Int) → Nat → (Nat → Int) → Prop} (hok : mOk m) (hcl : ∀ t m', cl m t m' → few m m') (k : stpR pool cl m p s2 f m') : few m m' := by
  obtain ⟨-, -, -, k⟩ := k
  have k1 := hok.2.2.1
  have k3 := hok.2.2.2.2.1
  rcases k with ⟨-, k1, -, n, -, rfl⟩ | ⟨-, rfl, -⟩ | ⟨-, n, -, -, -, rfl⟩ | ⟨-, ⟨-, -, rfl⟩ | ⟨-, -, k⟩⟩ | ⟨-, n, -, -, ⟨-, -, rfl⟩ | ⟨-, -, -, rfl⟩ | ⟨x, -, -, rfl⟩⟩ | ⟨-, k2, -, rfl⟩ | ⟨-, -, rfl⟩
  · exact ⟨updI_n (by omega), by rw [updI_n (by omega)]; exact Int.le_refl _, fun c hc => updI_n (by omega), fun k a b _ => updI_n (by omega)⟩
  · exact few.rf
  · unfold takenM
    split
    · have r := neL_r pool 7 (p + 1)
      have e : ∀ q, ¬ q = 1 → ¬ q = 6 → (q < 258 + 14 * (m 1).toNat ∨ 272 + 14 * (m 1).toNat ≤ q) → takesM m pool (m 1).toNat s2 (p + 1) (neL pool 7 (p + 1)) (ftF pool n (neL pool 7 (p + 1))).1 (ftF pool n (neL pool 7 (p + 1))).2 q = m q := fun q a b c => takesM_n (by omega) a b c
      exact ⟨e 0 (by omega) (by omega) (by omega), by rw [e 2 (by omega) (by omega) (by omega)]; exact Int.le_refl _, fun c hc => e _ (by omega) (by omega) (by omega), fun k a b _ => e k (by omega) (by omega) (by omega)⟩
    · exact few.rf
  · exact few.rf
  · exact hcl _ _ k
  · exact few.rf
  · exact few.rf
  · have lt := hbL_lt (m := m) (rc := pool) (fr := p + 1) (to := neL pool 7 (p + 1)) (m 1).toNat 0 x
    generalize hbL m pool (p + 1) (neL pool 7 (p + 1)) (m 1).toNat 0 = t at *
    have e : ∀ q s, ¬ q = 6 → ¬ q = 259 + 14 * t.toNat → ¬ q = 260 + 14 * t.toNat → movesM m t.toNat s q = m q := fun q s a b c => by unfold movesM; rw [updI_n c, updI_n a, updI_n b]
    exact ⟨e 0 _ (by omega) (by omega) (by omega), by rw [e 2 _ (by omega) (by omega) (by omega)]; exact Int.le_refl _, fun c hc => e _ _ (by omega) (by omega) (by omega), fun k a b _ => e k _ (by omega) (by omega) (by omega)⟩
  · split
    · have e : (1614 + 72 * (pool (p + 1) - 48)).toNat = 1614 + 72 * (pool (p + 1) - 48).toNat := by omega
      rw [e]
      exact ⟨updI_n (by omega), by rw [updI_n (by omega)]; exact Int.le_refl _, fun c hc => updI_n (by omega), fun k a b d => updI_n (d _)⟩
    · exact few.rf
  · exact few.rf
theorem does_few {m m' pool : Nat → Int} {p : Nat} {s2 f : Int} {cl : (Nat → Int) → Nat → (Nat → Int) → Prop} (hok : mOk m) (hcl : ∀ t m', cl m t m' → few m m') (k : doesR pool cl m p s2 f m') : few m m' := by
  rcases k with k | ⟨-, -, -, -, -, n, j, -, -, -, -, -, ⟨-, k⟩ | ⟨-, -, rfl⟩⟩
  · exact stp_few hok hcl k
  · exact stp_few hok hcl k
  · exact few.rf
theorem psi_few {m m' : Nat → Int} {k : Nat} (h : few m m') (hn : NC m) (hn' : NC m') (hok : mOk m) (hok' : mOk m') : psi k m' ≤ psi k m := by
  have k0 := hok.2.1
  have a := hn.cnt hok.2.2.1.1
  have b := hn'.cnt hok'.2.2.1.1
  have c : cnt (openB m') (m' 0).toNat = cnt (openB m) (m 0).toNat := by
    rw [h.1]
    exact cnt_congr _ (fun q hq => by unfold openB; rw [h.2.2.1 q (by omega)])
  have d := h.2.1
  unfold psi phi
  rw [a, b, c]
  omega
/-- what has happened when a task's step was done -/
def TSP (r : Nat) (pool : Nat → Int) (S : Nat → Option mO) (h0 : mH) (q z1 o' : Nat) (f c : Nat → Int) (g : Nat → Option Nat) (m1 : Nat → Int) (nx : Option Nat) (ps : Int) (k' : Nat) (h' : mH) : Prop :=
  ∃ f' c' C' nm' g', isR h' r (q : Int) (z1 : Int) f' c' C' nm' g' ∧ Same (rBlk r) h0 h' ∧ CR m1 pool S c' C' nm' g' ∧ (z1 = 1 → f' 0 = f 0) ∧
  (∀ j, 180 ≤ j → g' j = updO g (181 + 2 * q) nx j) ∧ (∀ k, 488 ≤ k → (∀ t : Nat, k ≠ 496 + 9 * t) → ¬ k = 494 + 9 * q → c' k = updI c (488 + 9 * q) (c (488 + 9 * q) + 1) k) ∧ c' 3 = c 3 ∧ c' 4 = c 4 ∧ c' (494 + 9 * q) = m1 (1620 + 72 * q + o') ∧ psi k' m1 ≤ ps
section TS
variable {G : mG} {l : Launch} {r : Nat} {pool : Nat → Int} {S : Nat → Option mO} {h0 : mH}
theorem go_tone {k q : Nat} {f c : Nat → Int} {C : Nat → Nat → Int} {nm : Nat → Int64} {g : Nat → Option Nat} {h : mH} (hR : isR h r (q : Int) 1 f c C nm g) (hc : ∀ q, InR (c q)) (hf : f 0 = 200 + (q : Int)) (hkk : k < 1000000) (hq : (q : Int) < c 2) (hq2 : q < 10) {s : Nat} {kd num vl : Int} {y : Int64} {inn nx : Option Nat} (hst : c (489 + 9 * q) = 0) (hg : g (181 + 2 * q) = some s) (hs : hGet h s = some (stO kd num vl y inn nx)) (hsr : ¬ rBlk r s) (hkr : InR kd) (hk : ¬ kd = 46) {z' : Int} {f' c' : Nat → Int} {C' : Nat → Nat → Int} {nm' : Nat → Int64} {g' : Nat → Option Nat} (hc' : ∀ q, InR (c' q)) (hz' : InR z') (hz0' : 0 < z') (P : RUNM G l 6 mX3_perform [.ref r, .ref s, .int (J (c (494 + 9 * q)))] h (fun v h' => v = some (.int (J 0)) ∧ isR h' r (q : Int) z' f' c' C' nm' g' ∧ Same (rBlk r) h h')) :
    GOES G l r k h (fun k' h' => k' = k + 1 ∧ isR h' r (q : Int) z' f' (updI c' (488 + 9 * q) (c' (488 + 9 * q) + 1)) C' nm' (updO g' (181 + 2 * q) nx) ∧ Same (rBlk r) h h') :=
  go_task (k := k) hR ⟨by omega, by omega⟩ hkk hq2 hf ((cr_taskStep (G := G) (l := l) 5 hR hc hq hq2 hst hg hs hsr hkr hk hc' hz' hz0' P).deeper (by decide))
theorem stk_lt {m : Nat → Int} (hs : ScI m) (h60 : m 0 ≤ 60) {t n : Nat} (hk : stkOk m t n) : ∀ j, j + 1 < n → m (1620 + 72 * t) < m (1620 + 72 * t + (j + 1)) := fun j hj => by
  induction j with
  | zero =>
    have a := hk.2.1 (0 + 1) hj
    have b := hk.2.2 0 hj
    have c := ((hs.2.2 (m (1620 + 72 * t + (0 + 1))).toNat (by omega)).2 (by omega)).1
    rw [b] at c
    rw [show 1620 + 72 * t + 0 = 1620 + 72 * t by omega] at c
    omega
  | succ j ih =>
    have ih := ih (by omega)
    have a := hk.2.1 (j + 1 + 1) hj
    have b := hk.2.2 (j + 1) hj
    have c := ((hs.2.2 (m (1620 + 72 * t + (j + 1 + 1))).toNat (by omega)).2 (by omega)).1
    rw [b] at c
    omega
end TS
