section mg_a8
theorem does_few {m m' pool : Nat → Int} {p : Nat} {s2 f : Int} {cl : (Nat → Int) → Nat → (Nat → Int) → Prop} (hok : mOk m) (hcl : ∀ t m', cl m t m' → few m m') (k : doesR pool cl m p s2 f m') : few m m' := by
  rcases k with k | ⟨-, -, -, -, -, n, j, -, -, -, -, -, ⟨-, k⟩ | ⟨-, -, rfl⟩⟩
  · exact stp_few hok hcl k
  · exact stp_few hok hcl k
  · exact few.rf
theorem psi_few {m m' : Nat → Int} {k : Nat} (h : few m m') (hn : NC m) (hn' : NC m') (hok : mOk m) (hok' : mOk m') : psi k m' ≤ psi k m := by
  have k0 := hok.2.1
  have a := hn.cnt hok.2.2.1.1
  have b := hn'.cnt hok'.2.2.1.1
  have c : cnt (openB m') (m' 0).toNat = cnt (openB m) (m 0).toNat := by
    rw [h.1]
    exact cnt_congr _ (fun q hq => by unfold openB; rw [h.2.2.1 q (by omega)])
  have d := h.2.1
  unfold psi phi
  rw [a, b, c]
  omega
/-- what has happened when a task's step was done -/
def TSP (r : Nat) (pool : Nat → Int) (S : Nat → Option mO) (h0 : mH) (q z1 o' : Nat) (f c : Nat → Int) (g : Nat → Option Nat) (m1 : Nat → Int) (nx : Option Nat) (ps : Int) (k' : Nat) (h' : mH) : Prop :=
  ∃ f' c' C' nm' g', isR h' r (q : Int) (z1 : Int) f' c' C' nm' g' ∧ Same (rBlk r) h0 h' ∧ CR m1 pool S c' C' nm' g' ∧ (z1 = 1 → f' 0 = f 0) ∧
  (∀ j, 180 ≤ j → g' j = updO g (181 + 2 * q) nx j) ∧ (∀ k, 488 ≤ k → (∀ t : Nat, k ≠ 496 + 9 * t) → ¬ k = 494 + 9 * q → c' k = updI c (488 + 9 * q) (c (488 + 9 * q) + 1) k) ∧ c' 3 = c 3 ∧ c' 4 = c 4 ∧ c' (494 + 9 * q) = m1 (1620 + 72 * q + o') ∧ psi k' m1 ≤ ps
section TS
variable {G : mG} {l : Launch} {r : Nat} {pool : Nat → Int} {S : Nat → Option mO} {h0 : mH}
theorem go_tone {k q : Nat} {f c : Nat → Int} {C : Nat → Nat → Int} {nm : Nat → Int64} {g : Nat → Option Nat} {h : mH} (hR : isR h r (q : Int) 1 f c C nm g) (hc : ∀ q, InR (c q)) (hf : f 0 = 200 + (q : Int)) (hkk : k < 1000000) (hq : (q : Int) < c 2) (hq2 : q < 10) {s : Nat} {kd num vl : Int} {y : Int64} {inn nx : Option Nat} (hst : c (489 + 9 * q) = 0) (hg : g (181 + 2 * q) = some s) (hs : hGet h s = some (stO kd num vl y inn nx)) (hsr : ¬ rBlk r s) (hkr : InR kd) (hk : ¬ kd = 46) {z' : Int} {f' c' : Nat → Int} {C' : Nat → Nat → Int} {nm' : Nat → Int64} {g' : Nat → Option Nat} (hc' : ∀ q, InR (c' q)) (hz' : InR z') (hz0' : 0 < z') (P : RUNM G l 6 mX3_perform [.ref r, .ref s, .int (J (c (494 + 9 * q)))] h (fun v h' => v = some (.int (J 0)) ∧ isR h' r (q : Int) z' f' c' C' nm' g' ∧ Same (rBlk r) h h')) :
    GOES G l r k h (fun k' h' => k' = k + 1 ∧ isR h' r (q : Int) z' f' (updI c' (488 + 9 * q) (c' (488 + 9 * q) + 1)) C' nm' (updO g' (181 + 2 * q) nx) ∧ Same (rBlk r) h h') :=
  go_task (k := k) hR ⟨by omega, by omega⟩ hkk hq2 hf ((cr_taskStep (G := G) (l := l) 5 hR hc hq hq2 hst hg hs hsr hkr hk hc' hz' hz0' P).deeper (by decide))
theorem stk_lt {m : Nat → Int} (hs : ScI m) (h60 : m 0 ≤ 60) {t n : Nat} (hk : stkOk m t n) : ∀ j, j + 1 < n → m (1620 + 72 * t) < m (1620 + 72 * t + (j + 1)) := fun j hj => by
  induction j with
  | zero =>
    have a := hk.2.1 (0 + 1) hj
    have b := hk.2.2 0 hj
    have c := ((hs.2.2 (m (1620 + 72 * t + (0 + 1))).toNat (by omega)).2 (by omega)).1
    rw [b] at c
    rw [show 1620 + 72 * t + 0 = 1620 + 72 * t by omega] at c
    omega
  | succ j ih =>
    have ih := ih (by omega)
    have a := hk.2.1 (j + 1 + 1) hj
    have b := hk.2.2 (j + 1) hj
    have c := ((hs.2.2 (m (1620 + 72 * t + (j + 1 + 1))).toNat (by omega)).2 (by omega)).1
    rw [b] at c
    omega
end TS
end mg_a8
section mg_a9
/-! ===== a step of a task without a fault ===== -/
section TS2
variable {G : mG} {l : Launch} {r : Nat} {pool : Nat → Int} {S : Nat → Option mO} {h0 : mH}
end TS2
end mg_a9
