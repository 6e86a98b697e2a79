section mg_88
end mg_88
section mg_89
/-! ===== the class: the faults it gathered ===== -/
theorem cnt_zero {p : Nat → Bool} : ∀ n : Nat, (∀ j, j < n → p j = false) → cnt p n = 0
  | 0, _ => rfl
  | n + 1, h => by rw [cnt_S, cnt_zero n (fun j hj => h j (by omega)), h n (by omega)]; rfl
def gbB (b : Nat) (f : Nat → Int) (i : Int) (t : Nat) : Bool := decide (b ≤ t ∧ f t = i)
theorem gbB_0 (b : Nat) (f : Nat → Int) (i : Int) : cnt (gbB b f i) b = 0 := cnt_zero b (fun j hj => decide_eq_false (fun g => absurd g.1 (by omega)))
def b0F (c : Nat → Int) (i : Int) : Nat := if i = -1 then (c 4).toNat else 0
def poL (b : Nat) (f : Nat → Int) (i k : Int) : Nat → Nat → Int
  | 0, _ => -1
  | n + 1, t => if gbB b f i t = true ∧ cnt (gbB b f i) t = k then (t : Int) else poL b f i k n (t + 1)
def ofF (c : Nat → Int) (i : Int) : Int := if inW c 2 10 i then c (495 + 9 * i.toNat) else 0
theorem ofF_r {c : Nat → Int} (hc : ∀ q, InR (c q)) (i : Int) : InR (ofF c i) := by
  unfold ofF; split
  · exact hc _
  · decide
theorem poL_r {b : Nat} {f : Nat → Int} {i k : Int} : ∀ (n t : Nat), -1 ≤ poL b f i k n t ∧ poL b f i k n t < t + n + 1
  | 0, t => by unfold poL; omega
  | n + 1, t => by
    unfold poL
    have y := poL_r (b := b) (f := f) (i := i) (k := k) n (t + 1)
    split <;> omega
set_option maxHeartbeats 4000000 in
set_option maxRecDepth 100000 in
theorem cn_gat {G : mG} {l : Launch} (d : Nat) {h : mH} {w : Nat} {c : Nat → Int} {C : Nat → Nat → Int} {nm : Nat → Int64} {g : Nat → Option Nat} (hW : isW h w c C nm g) (hc : ∀ q, InR (c q)) {F : Nat} (h11 : c 11 = (F : Int)) (h12 : c 12 = (F : Int)) (h13 : c 13 = (F : Int)) (hcapF : F ≤ 90) (h4 : 0 ≤ c 4 ∧ c 4 ≤ (F : Int)) (hC5 : ∀ q, InR (C 5 q)) {t : Nat} (ht : t < F) : RUNM G l (d + 1) mX1_at [.ref (wA w 15), .int (J (t : Int))] h (fun v h' => v = some (.int (J (C 5 t))) ∧ h' = h) := by
  have y := ci_at (G := G) (l := l) d hW.i5 (by decide) (hc _) (i := (t : Int)) ⟨by omega, by omega⟩
  rw [atF_t (by omega) (by omega)] at y
  exact y
end mg_89
