section mg_33
/-! ===== contracts of the reference: some of the face ===== -/
set_option maxHeartbeats 4000000 in
set_option maxRecDepth 100000 in
theorem m_isRow {G : mG} {l : Launch} (d : Nat) {h : mH} {a : Int} (ha : InR a) : RUNM G l (d + 1) mX11_isRow [.int (J a)] h (fun v h' => v = some (.int (J (b01 (0 ≤ a ∧ a ≤ 3)))) ∧ h' = h) := by
  refine RUNM.of (by decide +kernel) (Nat.le_of_ble_eq_true rfl) ?_
  refine r_iload_n (pc := 0) dX11_isRow_0 rfl ?_
  refine rj_iconst (pc := 1) dX11_isRow_1 ?_
  refine rj_iconst (pc := 2) dX11_isRow_2 ?_
  refine r_callS3 (pc := 3) dX11_isRow_3 qX11_isIn kX11_46 sX11_isIn (Nat.le_of_ble_eq_true rfl) (m_isIn d ha (by decide) (by decide)) (fun v_3 h_3 q_3 => ?_)
  obtain ⟨rfl, rfl⟩ := q_3
  refine r_ireturn (pc := 6) .boolean dX11_isRow_6 rfl (by first | exact nar_J0 | exact nar_J1 | exact nar_b01 | exact nar_bz) ?_
  first
  | exact ⟨rfl, rfl⟩
  | exact ⟨vf (by omega), rfl⟩
  | exact ⟨vt (by omega), rfl⟩
def wrongV (rwd : Nat → Int) (a : Int) : Int := if 0 ≤ a ∧ a ≤ 3 then (if rwd a.toNat < 0 then -11 else 0) else -1
theorem wrong_r {rwd : Nat → Int} {a : Int} : InR (wrongV rwd a) := by unfold wrongV; split <;> (try split) <;> decide
end mg_33
