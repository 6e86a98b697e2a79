set_option maxHeartbeats 4000000 in
set_option maxRecDepth 100000 in
theorem m_copies {G : mG} {l : Launch} (d : Nat) {h : mH} {b0 b1 : Nat} {f g : Nat → Int} (hne : b0 ≠ b1) (hf : hGet h b0 = some (.inr (.inl (2928, fun q => J (f q))))) (hg : hGet h b1 = some (.inr (.inl (2928, fun q => J (g q))))) (hlo : h.1 ≤ b1) : RUNM G l d mX11_copies [.ref b0, .ref b1] h (fun v h' => v = none ∧ hGet h' b1 = some (.inr (.inl (2928, fun q => J (cpF f g 2928 q)))) ∧ Same (fun b => b = b1) h h') := by
  refine RUNM.of (by decide +kernel) (Nat.le_of_ble_eq_true rfl) ?_
  refine rj_iconst (pc := 0) dX11_copies_0 ?_
  refine r_istore_n (pc := 1) dX11_copies_1 (Nat.le_of_ble_eq_true rfl) ?_
  dsimp only [lsSt, List.set, mLs, mEnt]
  exact L_copies d hne 2928 0 h hf (by rw [cpF_0]; exact hg) hlo rfl
def brL (pool : Nat → Int) : Nat → Nat → Int → Nat
  | 0, to, _ => to
  | n + 1, to, u => if 0 < u then brL pool n (to + 1) (u + brk (pool to)) else to
def brStop (pool : Nat → Int) : Nat → Nat → Int → Prop
  | 0, _, u => ¬ 0 < u
  | n + 1, to, u => 0 < u → brStop pool n (to + 1) (u + brk (pool to))
def ftF (pool : Nat → Int) (n e : Nat) : Int × Int := if pool e = 123 then ((e : Int) + 1, (brL pool (n + 1) (e + 1) 1 : Int) + -1) else ((e : Int), (e : Int))
abbrev openP (m : Nat → Int) (a : Int) : Prop := 0 ≤ a ∧ a ≤ m 0 - 1 ∧ m (18 + 4 * a).toNat = 0
def takenV (m pool : Nat → Int) (N p e : Nat) (a : Int) : Int := if openP m a then (if 0 ≤ hbL m pool p e N 0 then 102 else if N = 90 then 103 else 0) else 101
def takenM (m pool : Nat → Int) (N n p e : Nat) (a : Int) : Nat → Int := if takenV m pool N p e a = 0 then takesM m pool N a p e (ftF pool n e).1 (ftF pool n e).2 else m
theorem hbL_r {m rc : Nat → Int} {fr to : Nat} : ∀ n t : Nat, -5 ≤ hbL m rc fr to n t ∧ hbL m rc fr to n t ≤ t + n
  | 0, t => by unfold hbL; omega
  | n + 1, t => by
    have h := hbL_r (m := m) (rc := rc) (fr := fr) (to := to) n (t + 1)
    unfold hbL
    split <;> omega
theorem neL_r (pool : Nat → Int) : ∀ n k : Nat, k ≤ neL pool n k ∧ neL pool n k ≤ k + n
  | 0, k => ⟨Nat.le_refl _, Nat.le_refl _⟩
  | n + 1, k => by
    have h := neL_r pool n (k + 1)
    unfold neL
    split <;> omega
