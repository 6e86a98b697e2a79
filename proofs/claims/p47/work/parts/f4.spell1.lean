/-! ===== the class: the speller ===== -/
theorem J_div {x y : Int} (hx : InR x) (hy : InR y) (h0 : 0 ≤ x) : J x / J y = J (x / y) := by
  rw [J_def, J_def, J_def, ← Int.tdiv_eq_ediv_of_nonneg h0]
  exact (Int32.ofInt_tdiv (by show (-2147483648 : Int) ≤ x; omega) (by show x ≤ (2147483647 : Int); omega) (by show (-2147483648 : Int) ≤ y; omega) (by show y ≤ (2147483647 : Int); omega)).symm
theorem J_nz {y : Int} (hy : InR y) (h : ¬ y = 0) : ¬ J y = 0 := by
  rw [J_0, J_inj hy (by decide)]
  exact h
def SH : Type := (Nat → Int) × Int
def ap1 (s : (Nat → Int) × Int) (v : Int) : (Nat → Int) × Int := if 0 ≤ s.2 ∧ s.2 < 120 then (updI s.1 s.2.toNat v, s.2 + 1) else s
def apS (s : (Nat → Int) × Int) : List Int → (Nat → Int) × Int
  | [] => s
  | v :: L => apS (ap1 s v) L
theorem apS_a (s : (Nat → Int) × Int) : ∀ (L M : List Int), apS s (L ++ M) = apS (apS s L) M := by
  intro L
  induction L generalizing s with
  | nil => intro M; rfl
  | cons v L ih => intro M; exact ih (ap1 s v) M
def shOk (s : (Nat → Int) × Int) : Prop := 0 ≤ s.2 ∧ s.2 ≤ 120
theorem ap1_ok {s : (Nat → Int) × Int} {v : Int} (h : shOk s) : shOk (ap1 s v) := by
  unfold shOk at h ⊢
  unfold ap1
  split
  · show 0 ≤ s.2 + 1 ∧ s.2 + 1 ≤ 120; omega
  · exact h
theorem apS_ok : ∀ (L : List Int) (s : (Nat → Int) × Int), shOk s → shOk (apS s L)
  | [], _, h => h
  | _ :: L, _, h => apS_ok L _ (ap1_ok h)
def isSs (h : mH) (a : Nat) (s : (Nat → Int) × Int) : Prop := isSp h a s.2 s.1 ∧ shOk s
theorem isSs.gx {h : mH} {a : Nat} {s : (Nat → Int) × Int} (k : isSs h a s) : hGet h a = some (.inl (5, [.ref (rA a 1)])) := k.1.gx
theorem isSs.gi {h : mH} {a : Nat} {s : (Nat → Int) × Int} (k : isSs h a s) : hGet h (rA a 1) = some (.inl (1, [.ref (rA a 1 + 1), .int (J s.2)])) := k.1.i.gx
theorem cs_app {G : mG} {l : Launch} (d : Nat) {h : mH} {a : Nat} {s : (Nat → Int) × Int} (I : isSs h a s) (x : Int) : RUNM G l d mX1_append [.ref (rA a 1), .int (J x)] h (fun v h' => (∃ b : Int, v = some (.int (J b))) ∧ isSs h' a (ap1 s x) ∧ Same (dBlk a) h h') := by
  have r := I.2
  unfold shOk at r
  refine (ci_append d I.1.i (by decide) ⟨by omega, by omega⟩ x).mono (fun v h' q => ⟨⟨_, q.1⟩, ⟨?_, ap1_ok I.2⟩, q.2.2.mono (fun b hb => i_dBlk hb)⟩)
  have k := I.1.ofI q.2.2 q.2.1
  unfold ap1
  by_cases c : 0 ≤ s.2 ∧ s.2 < 120
  · rw [if_pos c]
    rw [if_pos (by omega), if_pos (by omega)] at k
    exact k
  · rw [if_neg c]
    rw [if_neg (by omega), if_neg (by omega)] at k
    exact k
noncomputable def nmF (y : Int64) : Nat → Nat → List Int
  | 0, _ => []
  | n + 1, i => letV y i :: nmF y n (i + 1)
noncomputable def nmLs (y : Int64) : List Int := nmF y (lnL y 7 0).toNat 0
theorem lnL_r7 {y : Int64} : ∀ n t : Nat, 0 ≤ lnL y n t ∧ lnL y n t ≤ t + n
  | 0, t => by unfold lnL; omega
  | n + 1, t => by
    have := lnL_r7 (y := y) n (t + 1)
    unfold lnL
    split <;> omega
def dgV (u p : Int) : Int := 48 + (u / p - u / p / 10 * 10)
def dgL (u : Int) : Nat → List Int
  | 0 => [dgV u 1]
  | k + 1 => if tenP (k + 1) ≤ u then dgV u (tenP (k + 1)) :: dgL u k else dgL u k
def nbLs (v : Int) : List Int := if v < 0 then 45 :: dgL (-v) 4 else dgL v 4
theorem tenP_d (k : Nat) : tenP (k + 1) / 10 = tenP k := by
  have : tenP (k + 1) = 10 * tenP k := rfl
  omega
theorem tenP_m {k : Nat} (h : k ≤ 4) : 1 ≤ tenP k ∧ tenP k ≤ 10000 := by
  match k, h with
  | 0, _ => decide
  | 1, _ => decide
  | 2, _ => decide
  | 3, _ => decide
  | 4, _ => decide