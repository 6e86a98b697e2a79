section mg_9g
end mg_9g
section mg_9h
/-! ===== the class: what ends in a call, turns: given what work does ===== -/
noncomputable def WK (G : mG) (l : Launch) (D : Nat) (r : Nat) (h : mH) (R : mH → Prop) : Prop := RUNM G l D mX3_work [.ref r] h (fun v h' => v = none ∧ R h')
theorem WK.of {G : mG} {l : Launch} {D r : Nat} {h : mH} {R : mH → Prop} (k : RUN G l D mX3_work 2 [some (.ref r), some (.int (J 0)), none] [] h (fun v h' => v = none ∧ R h')) : WK G l D r h R := by
  unfold WK
  refine RUNM.of (by decide +kernel) (Nat.le_of_ble_eq_true rfl) ?_
  refine rj_iconst (pc := 0) dX3_work_0 ?_
  refine r_istore_n (pc := 1) dX3_work_1 (Nat.le_of_ble_eq_true rfl) ?_
  dsimp only [lsSt, List.set, mLs, mEnt]
  exact k
end mg_9h
section mg_9i
/-! ===== the class: turns, given what begins them and what work does ===== -/
def isO3 (h : mH) (r : Nat) : Prop := ∃ fs, hGet h r = some (.inl (3, fs))
theorem isR.o3 {h : mH} {r : Nat} {b z : Int} {f c : Nat → Int} {C : Nat → Nat → Int} {nm : Nat → Int64} {g : Nat → Option Nat} (k : isR h r b z f c C nm g) : isO3 h r := ⟨_, k.gx⟩
end mg_9i
