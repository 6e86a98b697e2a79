section mg_f1
end mg_f1
section mg_f2
/-! ===== the class: how many steps, thing and of, on any keeper ===== -/
/-- so many steps stand from here on -/
def chL (S : Nat → Option mO) : Nat → Option Nat → Prop
  | 0, r => r = none
  | n + 1, r => ∃ (a : Nat) (kd num vl : Int) (y : Int64) (inn nx : Option Nat), r = some a ∧ S a = some (stO kd num vl y inn nx) ∧ chL S n nx
end mg_f2
