section mg_42
def stampI (m : Nat → Int) (e : Int) : Int := if e < 100 then m (260 + 14 * e).toNat else m (20 + 4 * (e - 100)).toNat
theorem stampI_r {m : Nat → Int} (hM : ∀ q, InR (m q)) (e : Int) : InR (stampI m e) := by unfold stampI; split <;> exact hM _
theorem eaL_r {m : Nat → Int} {N C : Nat} {a st : Int} : ∀ (n e : Nat) (f : Int), -5 ≤ f → f < e → -5 ≤ eaL m N C a st n e f ∧ eaL m N C a st n e f < e + n
  | 0, e, f, h1, h2 => by unfold eaL; omega
  | n + 1, e, f, h1, h2 => by
    unfold eaL
    split
    · have z := eaL_r (m := m) (N := N) (C := C) (a := a) (st := st) n (e + 1) (e : Int) (by omega) (by omega)
      omega
    · have z := eaL_r (m := m) (N := N) (C := C) (a := a) (st := st) n (e + 1) f h1 (by omega)
      omega
def eaV (m : Nat → Int) (N C : Nat) (a st : Int) : Int := eaL m N C a st 160 0 (-5)
theorem eaV_r {m : Nat → Int} {N C : Nat} {a st : Int} : -5 ≤ eaV m N C a st ∧ eaV m N C a st ≤ 159 := by
  have z := eaL_r (m := m) (N := N) (C := C) (a := a) (st := st) 160 0 (-5) (by decide) (by decide)
  unfold eaV
  omega
def enL (m : Nat → Int) (N C : Nat) (a : Int) : Nat → Int → Int
  | 0, f => f
  | n + 1, f => enL m N C a n (eaV m N C a (stampI m f))
def entryV (m : Nat → Int) (N C : Nat) (a k : Int) : Int := if (0 ≤ a ∧ a ≤ m 0 - 1) ∧ (0 ≤ k ∧ k ≤ entsN m a N C - 1) then enL m N C a (entsN m a N C - 1 - k).toNat (eaV m N C a (m 6 + 1)) else -1
theorem entsN_r {m : Nat → Int} {N C : Nat} {a : Int} (hcap : N ≤ 90) (hC2 : C ≤ 60) : 0 ≤ entsN m a N C ∧ entsN m a N C ≤ 150 := by
  have r1 := cnt_r (entTB m a) N
  have r2 := cnt_r (entSC m a) C
  unfold entsN
  omega
end mg_42
