section mg_40
set_option maxHeartbeats 4000000 in
set_option maxRecDepth 100000 in
theorem m_counter {G : mG} {l : Launch} (d : Nat) {h : mH} {x s : Nat} {f4 f6 f8 f9 f10 f11 f12 f13 f14 f16 f18 : Int} {m kp was pool tape pln pap rwd rw : Nat → Int}(hB : isM h x (mFs x f4 f6 f8 f9 f10 f11 f12 f13 f14 f16 f18 s) m kp was pool tape pln pap rwd rw) {k : Int} (hk : InR k) : RUNM G l (d + 1) mX11_counter [.ref x, .int (J k)] h (fun v h' => v = some (counterV m k) ∧ h' = h) := by
  dsimp only [mFs] at hB
  refine RUNM.of (by decide +kernel) (Nat.le_of_ble_eq_true rfl) ?_
  refine r_iload_n (pc := 0) dX11_counter_0 rfl ?_
  refine rj_iconst (pc := 1) dX11_counter_1 ?_
  refine rj_bipush (pc := 2) dX11_counter_2 (by decide +kernel) ?_
  refine r_callS3 (pc := 4) dX11_counter_4 qX11_isIn kX11_46 sX11_isIn (Nat.le_of_ble_eq_true rfl) (m_isIn d hk (by decide) (by decide)) (fun v_4 h_4 q_4 => ?_)
  obtain ⟨rfl, rfl⟩ := q_4
  refine rj_if_eq (pc := 7) (tgt := 23) dX11_counter_7 (by decide) (by first | assumption | exact b01_r | exact bz_r | omega | (constructor <;> omega) | exact hM _ | exact hPo _ | exact hTa _ | exact hRo _) (fun c_7 => ?_) (fun c_7 => ?_)
  · try simp only [b01_0, bz_0, Classical.not_not] at c_7
    refine r_ldc2 (pc := 23) dX11_counter_23 oX11_244 ?_
    refine r_lreturn (pc := 26) dX11_counter_26 rfl ?_
    first
    | exact ⟨by unfold counterV; rw [if_pos c_7]; rfl, rfl⟩
    | exact ⟨by unfold counterV; rw [if_neg c_7]; rfl, rfl⟩
  · try simp only [b01_0, bz_0, Classical.not_not] at c_7
    refine r_aload_n (pc := 10) dX11_counter_10 rfl (by first | rfl | exact isRefV_rf _) ?_
    refine rm_getf (pc := 11) dX11_counter_11 fX11_11 (by assumption) rfl ?_
    refine rj_bipush (pc := 14) dX11_counter_14 (by decide +kernel) ?_
    refine r_iload_n (pc := 16) dX11_counter_16 rfl ?_
    refine rj_iadd (pc := 17) dX11_counter_17 ?_
    refine rj_iald (pc := 18) (j := (10 + k).toNat) dX11_counter_18 (by first | exact isM.g0 (by assumption) | exact isM.g3 (by assumption) | exact isM.g4 (by assumption) | exact isM.g8 (by assumption) | exact isM.g7 (by assumption) | exact isM.g6 (by assumption) | exact isM.g5 (by assumption) | exact isM.g1 (by assumption) | exact isM.g2 (by assumption)) (by first | assumption | exact b01_r | exact bz_r | omega | (constructor <;> omega) | exact hM _ | exact hPo _ | exact hTa _ | exact hRo _) (by first | assumption | exact b01_r | exact bz_r | omega | (constructor <;> omega) | exact hM _ | exact hPo _ | exact hTa _ | exact hRo _) (by first | assumption | exact b01_r | exact bz_r | omega | (constructor <;> omega) | exact hM _ | exact hPo _ | exact hTa _ | exact hRo _) (by omega) ?_
    refine r_i2l (pc := 19) dX11_counter_19 ?_
    refine r_goto (pc := 20) (tgt := 26) dX11_counter_20 (by decide) ?_
    refine r_lreturn (pc := 26) dX11_counter_26 rfl ?_
    first
    | exact ⟨by unfold counterV; rw [if_pos c_7]; rfl, rfl⟩
    | exact ⟨by unfold counterV; rw [if_neg c_7]; rfl, rfl⟩
end mg_40
