section mg_c3
section CT
variable {m m' pool pool' c c' : Nat → Int} {S S' : Nat → Option mO} {C C' : Nat → Nat → Int} {nm nm' : Nat → Int64} {g g' : Nat → Option Nat} {B : Int}
theorem ctr_take (h : CTR m pool S c C nm g) (hT : TkM m pool 99) (hok : mOk m) {rc : Nat → Int} {N fr to P E Z : Nat} {o : Int} {inn : Option Nat} (hN : m 1 = (N : Int)) (h9 : N < 90) (hn : 1 ≤ to - fr ∧ to - fr ≤ 7) (hft : fr ≤ to) (hl : ∀ j, fr ≤ j → j < to → isLt (rc j)) (ho : InR o) (hx : tpO S pool inn P E) (hZ : c 10 = (Z : Int)) :
    CTR (takesM m rc N o fr to P E) pool S (adE (adC c N o) Z) (updC C 2 (updI (C 2) Z (N : Int))) (updL nm N (nmY rc fr to)) (updO g (2 * N) inn) := by
  have um : ∀ q, ¬ q = 1 → ¬ q = 6 → (q < 258 + 14 * N ∨ 272 + 14 * N ≤ q) → takesM m rc N o fr to P E q = m q := fun q a b d => takesM_n hn.2 a b d
  have uc : ∀ j, (488 ≤ j ∨ j = 3) → adE (adC c N o) Z j = c j := fun j hj => by
    unfold adE adC
    rw [updI_n (by omega), updI_n (by omega), updI_n (by omega), updI_n (by omega), updI_n (by omega)]
  exact ctr_of h hT hok (CR_take h.1 hok hN h9 hn hft hl ho hx hZ) (fun j hj => updO_n (by omega)) (fun q a _ => uc q (Or.inl a)) (uc 3 (Or.inr rfl)) (um 3 (by omega) (by omega) (by omega)) (um 7 (by omega) (by omega) (by omega)) (fun q a b _ => um q (by omega) (by omega) (by omega))
end CT
end mg_c3
