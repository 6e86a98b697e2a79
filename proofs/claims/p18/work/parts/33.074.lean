section mg_44
set_option maxHeartbeats 4000000 in
set_option maxRecDepth 100000 in
theorem m_pooled {G : mG} {l : Launch} (d : Nat) {h : mH} {x s : Nat} {f4 f6 f8 f9 f10 f11 f12 f13 f14 f16 f18 : Int} {m kp was pool tape pln pap rwd rw : Nat → Int}(hB : isM h x (mFs x f4 f6 f8 f9 f10 f11 f12 f13 f14 f16 f18 s) m kp was pool tape pln pap rwd rw) {a b p : Nat} (hTa : ∀ q, InR (tape q)) (hab : a ≤ b) (hb : b ≤ 120) (hp : p + (b - a) < 12342) (h8 : m 8 = (p : Int)) : RUNM G l (d) mX11_pooled [.ref x, .int (J (a : Int)), .int (J (b : Int))] h (fun v h' => v = some (.int (J (p : Int))) ∧ isM h' x (mFs x f4 f6 f8 f9 f10 f11 f12 f13 f14 f16 f18 s) (updI m 8 ((p : Int) + (b - a : Nat) + 1)) kp was (pooledP pool tape p a b) tape pln pap rwd rw ∧ Same (mBlk x) h h') := by
  dsimp only [mFs] at hB
  refine RUNM.of (by decide +kernel) (Nat.le_of_ble_eq_true rfl) ?_
  refine r_aload_n (pc := 0) dX11_pooled_0 rfl (by first | rfl | exact isRefV_rf _) ?_
  refine rm_getf (pc := 1) dX11_pooled_1 fX11_11 (by assumption) rfl ?_
  refine rj_bipush (pc := 4) dX11_pooled_4 (by decide +kernel) ?_
  refine rj_iald (pc := 6) (j := 8) dX11_pooled_6 (by first | exact isM.g0 (by assumption) | exact isM.g3 (by assumption) | exact isM.g4 (by assumption) | exact isM.g8 (by assumption) | exact isM.g7 (by assumption) | exact isM.g6 (by assumption) | exact isM.g5 (by assumption) | exact isM.g1 (by assumption) | exact isM.g2 (by assumption)) (by first | assumption | exact b01_r | exact bz_r | omega | (constructor <;> omega) | exact hM _ | exact hPo _ | exact hTa _ | exact hRo _) (by first | assumption | exact b01_r | exact bz_r | omega | (constructor <;> omega) | exact hM _ | exact hPo _ | exact hTa _ | exact hRo _) (by first | assumption | exact b01_r | exact bz_r | omega | (constructor <;> omega) | exact hM _ | exact hPo _ | exact hTa _ | exact hRo _) rfl ?_
  rw [h8]
  refine r_istore_n (pc := 7) dX11_pooled_7 (Nat.le_of_ble_eq_true rfl) ?_
  dsimp only [lsSt, List.set, mLs, mEnt]
  refine r_iload_n (pc := 8) dX11_pooled_8 rfl ?_
  refine r_istore (pc := 9) dX11_pooled_9 (Nat.le_of_ble_eq_true rfl) ?_
  dsimp only [lsSt, List.set, mLs, mEnt]
  exact L_pooled d hTa hab hb hp h8 (b - a) 0 h (by rw [plF_0]; exact hB) (by omega)
end mg_44
