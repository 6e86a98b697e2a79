section mg_a1
section PFM
variable {G : mG} {l : Launch} {r : Nat} {b z : Int} {f c : Nat → Int} {C : Nat → Nat → Int} {nm : Nat → Int64} {g : Nat → Option Nat} {h : mH} {pool m m' : Nat → Int} {S : Nat → Option mO} {B : Int} {cl : (Nat → Int) → Nat → (Nat → Int) → Prop}
end PFM
end mg_a1
section mg_a2
/-! ===== what holds between steps, written into what they do ===== -/
def drI (pool : Nat → Int) (cl : (Nat → Int) → Nat → (Nat → Int) → Prop) : (Nat → Int) → Nat → Int → Int → (Nat → Int) → Prop := fun m p s2 f m' => doesR pool cl m p s2 f m' ∧ (∃ B, Inv m' pool B) ∧ Ev m m'
def clI (pool : Nat → Int) (sink : Int) (cl : (Nat → Int) → Nat → (Nat → Int) → Prop) (m : Nat → Int) (t : Nat) (m' : Nat → Int) : Prop := mOk m ∧ t ≤ 89 ∧ ((¬ m (258 + 14 * t) = 0 ∧ m' = m) ∨ (m (258 + 14 * t) = 0 ∧ ∃ (p E k : Nat) (f : Int) (m2 : Nat → Int), m (262 + 14 * t) = p ∧ m (263 + 14 * t) = E ∧ p ≤ 12342 ∧ E ≤ 12342 ∧ loopR pool (drI pool cl) t E k (updI m (258 + 14 * t) 1) p f m2 ∧ mOk m2 ∧ InR f ∧ m2 2 ≤ 89 ∧ m2 4 ≤ 119 ∧ m2 5 ≤ 119 ∧ m' = closedM (if f = 0 then m2 else gathersM m2 sink f t) t))
def diI (pool : Nat → Int) (cl : (Nat → Int) → Nat → (Nat → Int) → Prop) (sh : (Nat → Int) → Int → (Nat → Int) → Prop) (m : Nat → Int) (t p : Nat) (f : Int) (m' : Nat → Int) : Prop := doesInR pool cl sh m t p f m' ∧ (∃ B, Mid m' pool B) ∧ TkM m' pool t ∧ keepT m m' t
def turnLoopI (pool : Nat → Int) (cl : (Nat → Int) → Nat → (Nat → Int) → Prop) (sh : (Nat → Int) → Int → (Nat → Int) → Prop) (t E : Nat) : Nat → (Nat → Int) → Nat → (Nat → Int) → Prop
  | 0, m, p, m' => E ≤ p ∧ turnFinR sh t E m p m'
  | k + 1, m, p, m' => (E ≤ p ∧ turnFinR sh t E m p m') ∨ (p < E ∧ ∃ f m1, diI pool cl sh m t p f m1 ∧ InR f ∧ (∀ q, InR (m1 q)) ∧
      ((¬ f = 0 ∧ isOverR sh t 2 (updI m1 (1618 + 72 * t) f) m') ∨
       (f = 0 ∧ ((pool p = 46 ∧ turnFinR sh t E (updI m1 (1615 + 72 * t) (m1 (1615 + 72 * t) + 1)) (behL pool (E - p) p 0 + 1) m') ∨
                 (¬ pool p = 46 ∧ turnLoopI pool cl sh t E k (updI m1 (1615 + 72 * t) (m1 (1615 + 72 * t) + 1)) (behL pool (E - p) p 0 + 1) m')))))
def turnI (pool : Nat → Int) (cl : (Nat → Int) → Nat → (Nat → Int) → Prop) (sh : (Nat → Int) → Int → (Nat → Int) → Prop) (m : Nat → Int) (t : Nat) (m' : Nat → Int) : Prop :=
  t ≤ 9 ∧ mOk (turnM m t) ∧ (∃ n : Nat, n ≤ 60 ∧ m (1619 + 72 * t) = n) ∧
  ((fineV (turnM m t) t = false ∧ isOverR sh t 3 (turnM m t) m') ∨
   (fineV (turnM m t) t = true ∧ ∃ p E k : Nat, m (1617 + 72 * t) = E ∧ m (1611 + 72 * t) = p ∧ E ≤ 12342 ∧ p ≤ 12343 ∧ turnLoopI pool cl sh t E k (turnM m t) p m'))
section EXI
variable {pool : Nat → Int} {sink : Int} {cl cl' : (Nat → Int) → Nat → (Nat → Int) → Prop} {sh sh' : (Nat → Int) → Int → (Nat → Int) → Prop} {n : Nat}
end EXI
end mg_a2
