section mg_c3
section CT
variable {m m' pool pool' c c' : Nat → Int} {S S' : Nat → Option mO} {C C' : Nat → Nat → Int} {nm nm' : Nat → Int64} {g g' : Nat → Option Nat} {B : Int}
theorem ctr_m8 (h : CTR m pool S c C nm g) (hT : TkM m pool 99) (hok : mOk m) {v : Int} : CTR (updI m 8 v) pool S c C nm g := by
  have um : ∀ j, ¬ j = 8 → updI m 8 v j = m j := fun j w => updI_n w
  refine ctr_of h hT hok (h.1.see hok (Int.le_refl _) (fun j hj => um j (by rcases hj with w | w | w | ⟨t, w | w⟩ <;> omega)) (fun _ _ => rfl) (by obtain ⟨⟨-, -, -, -, -, -, -, -, R⟩, -⟩ := h; exact R.1) (fun _ _ => rfl)) (fun _ _ => rfl) (fun _ _ _ => rfl) rfl (um 3 (by omega)) (um 7 (by omega)) (fun q a b _ => um q (by omega))
theorem ctr_open (h : CTR m pool S c C nm g) (hT : TkM m pool 99) (hok : mOk m) {N p Z : Nat} {t : Int} (hN : m 0 = (N : Int)) (h9 : N < 60) (hN1 : 1 ≤ N) (hp : p < 60) (ht : InR t) (hZ : c 10 = (Z : Int)) : CTR (opensM m N p t) pool S (adE (asC c N (p : Int) t) Z) (updC C 2 (updI (C 2) Z (100 + (N : Int)))) nm g := by
  obtain ⟨o0, o1, o2, o3, o4, o6, oe⟩ := opensM_at (m := m) (C := N) (p := (p : Int)) (t := t)
  have uc : ∀ j, (488 ≤ j ∨ j = 3) → adE (asC c N (p : Int) t) Z j = c j := fun j hj => by
    unfold adE asC
    rw [updI_n (by omega), updI_n (by omega), updI_n (by omega), updI_n (by omega), updI_n (by omega)]
  exact ctr_of h hT hok (CR_opens h.1 hok hN h9 hN1 hp ht hZ) (fun _ _ => rfl) (fun q a _ => uc q (Or.inl a)) (uc 3 (Or.inr rfl)) (oe 3 (by omega) (by omega) (by omega)) (oe 7 (by omega) (by omega) (by omega)) (fun q a b _ => oe q (by omega) (by omega) (by omega))
theorem ctr_move (h : CTR m pool S c C nm g) (hT : TkM m pool 99) (hok : mOk m) {t Z : Nat} {s : Int} (ht : (t : Int) < m 1) (h0 : m (258 + 14 * t) = 0) (hs : InR s) (hZ : c 10 = (Z : Int)) : CTR (movesM m t s) pool S (mvC c t s (cnt (notB (t : Int) (C 2)) Z)) (mvD C Z t) nm g := by
  have k1 := hok.2.2.1
  have e : ∀ q, ¬ q = 6 → ¬ q = 259 + 14 * t → ¬ q = 260 + 14 * t → movesM m t s q = m q := fun q a b c => by unfold movesM; rw [updI_n c, updI_n a, updI_n b]
  have uc : ∀ j, (488 ≤ j ∨ j = 3) → mvC c t s (cnt (notB (t : Int) (C 2)) Z) j = c j := fun j hj => by
    unfold mvC
    rw [updI_n (by omega), updI_n (by omega), updI_n (by omega)]
  exact ctr_of h hT hok (CR_move h.1 hok ht h0 hs hZ) (fun _ _ => rfl) (fun q a _ => uc q (Or.inl a)) (uc 3 (Or.inr rfl)) (e 3 (by omega) (by omega) (by omega)) (e 7 (by omega) (by omega) (by omega)) (fun q a b _ => e q (by omega) (by omega) (by omega))
theorem ctr_count (h : CTR m pool S c C nm g) (hT : TkM m pool 99) (hok : mOk m) {k : Nat} {v : Int} (hk : k < 8) (hv : InR v) : CTR (updI m (10 + k) v) pool S c (updC C 0 (updI (C 0) k v)) nm g :=
  ctr_of h hT hok (CR_count h.1 hok (Int.le_refl _) hk hv) (fun _ _ => rfl) (fun _ _ _ => rfl) rfl (updI_n (by omega)) (updI_n (by omega)) (fun q a b _ => updI_n (by omega))
theorem ctr_cancel (h : CTR m pool S c C nm g) (hT : TkM m pool 99) (hok : mOk m) {q : Nat} (hq : q < 10) : CTR (updI m (1614 + 72 * q) 1) pool S (updI c (496 + 9 * q) 1) C nm g :=
  ctr_of h hT hok (CR_tk h.1 hok (Int.le_refl _) hq (by decide)).2 (fun _ _ => rfl) (fun j _ d => updI_n (d q)) (updI_n (by omega)) (updI_n (by omega)) (updI_n (by omega)) (fun j _ _ d => updI_n (d q))
end CT
end mg_c3
