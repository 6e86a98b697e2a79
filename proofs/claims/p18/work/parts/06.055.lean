section mg_27
set_option maxHeartbeats 4000000 in
set_option maxRecDepth 100000 in
theorem m_clear {G : mG} {l : Launch} (d : Nat) {h : mH} {x s : Nat} {f4 f6 f8 f9 f10 f11 f12 f13 f14 f16 f18 : Int} {m kp was pool tape pln pap rwd rw : Nat → Int}(hB : isM h x (mFs x f4 f6 f8 f9 f10 f11 f12 f13 f14 f16 f18 s) m kp was pool tape pln pap rwd rw) : RUNM G l (d) mX11_clear [.ref x] h (fun v h' => v = some (.int (J f6)) ∧ isM h' x (mFs x f4 0 f8 f9 f10 f11 f12 f13 f14 f16 f18 s) m kp was pool tape pln pap rwd rw ∧ Same (mBlk x) h h') := by
  dsimp only [mFs] at hB
  refine RUNM.of (by decide +kernel) (Nat.le_of_ble_eq_true rfl) ?_
  refine r_aload_n (pc := 0) dX11_clear_0 rfl (by first | rfl | exact isRefV_rf _) ?_
  refine rm_getf (pc := 1) dX11_clear_1 fX11_61 (by assumption) rfl ?_
  refine r_istore_n (pc := 4) dX11_clear_4 (Nat.le_of_ble_eq_true rfl) ?_
  dsimp only [lsSt, List.set, mLs, mEnt]
  refine r_aload_n (pc := 5) dX11_clear_5 rfl (by first | rfl | exact isRefV_rf _) ?_
  refine rj_iconst (pc := 6) dX11_clear_6 ?_
  refine rm_putf (pc := 7) dX11_clear_7 fX11_61 (by assumption) rfl rfl (Nat.le_of_ble_eq_true rfl) (fun h_7 hB_7 hS_7 => ?_)
  dsimp only [List.set, mFs] at hB_7
  refine r_iload_n (pc := 10) dX11_clear_10 rfl ?_
  refine r_ireturn (pc := 11) .int dX11_clear_11 rfl (by first | rfl | assumption) ?_
  exact ⟨rfl, hB_7, hS_7⟩
def feedV (f6 c : Int) : Int := if 1 ≤ c ∧ c ≤ 127 then (if f6 = 120 then -4 else f6 + 1) else -2
def feedC (f6 c : Int) : Prop := (1 ≤ c ∧ c ≤ 127) ∧ ¬ f6 = 120
end mg_27
