/-! ===== the class: the speller, steps ===== -/
abbrev rng6 (v : Int) : Prop := -1000000 < v ∧ v < 1000000
def spK (kd num vl : Int) (y : Int64) (inn : Option Nat) (SL S1 : Nat → List Int → Prop) (L : List Int) : Prop :=
  (kd = 43 → (rng6 num ∧ rng6 vl) ∧ L = kd :: (nbLs num ++ 61 :: nbLs vl)) ∧
  (kd = 33 ∨ kd = 107 → rng6 num ∧ L = kd :: nbLs num) ∧
  (kd = 97 → (inn = none ∧ L = kd :: nmLs y) ∨ ∃ b L2, inn = some b ∧ SL b L2 ∧ L = kd :: (nmLs y ++ 123 :: (L2 ++ [125]))) ∧
  (kd = 120 → L = kd :: nmLs y) ∧
  (kd = 109 → rng6 num ∧ L = kd :: (nmLs y ++ 62 :: nbLs num)) ∧
  (kd = 63 → (rng6 num ∧ rng6 vl) ∧ ∃ b L2, inn = some b ∧ S1 b L2 ∧ L = kd :: ((nbLs num ++ 60 :: nbLs vl) ++ 58 :: L2)) ∧
  (¬ kd = 43 → ¬ kd = 33 → ¬ kd = 107 → ¬ kd = 97 → ¬ kd = 120 → ¬ kd = 109 → ¬ kd = 63 → L = [kd])
/-- what is written of a step (false), of steps (true) -/
def wX (S : Nat → Option mO) : Nat → Bool → Nat → Nat → List Int → Prop
  | 0, _, _, _, _ => False
  | n + 1, false, t, q, L => (8 < t ∧ L = []) ∨ (t ≤ 8 ∧ ∃ (kd num vl : Int) (y : Int64) (inn nx : Option Nat), S q = some (stO kd num vl y inn nx) ∧ InR kd ∧ spK kd num vl y inn (wX S n true (t + 1)) (wX S n false (t + 1)) L)
  | n + 1, true, t, q, L => ∃ (kd num vl : Int) (y : Int64) (inn nx : Option Nat) (L1 : List Int), S q = some (stO kd num vl y inn nx) ∧ wX S n false t q L1 ∧ ((nx = none ∧ L = L1) ∨ ∃ b L2, nx = some b ∧ wX S n true t b L2 ∧ L = L1 ++ 59 :: L2)