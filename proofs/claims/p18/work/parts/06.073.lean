section mg_30
set_option maxHeartbeats 4000000 in
set_option maxRecDepth 100000 in
theorem m_names {G : mG} {l : Launch} (d : Nat) {h : mH} {x s : Nat} {f4 f6 f8 f9 f10 f11 f12 f13 f14 f16 f18 : Int} {m kp was pool tape pln pap rwd rw : Nat → Int}(hB : isM h x (mFs x f4 f6 f8 f9 f10 f11 f12 f13 f14 f16 f18 s) m kp was pool tape pln pap rwd rw) {rs : Nat} {rc : Nat → Int} {fr to : Nat} (hR : rowOk rs rc pool tape to) (hft : fr ≤ to) (h7 : to - fr ≤ 7) {t : Nat} (ht : t ≤ 89) : RUNM G l (d + 1) mX11_names [.ref x, .int (J (t : Int)), .ref (mAd x rs), .int (J (fr : Int)), .int (J (to : Int))] h (fun v h' => v = none ∧ isM h' x (mFs x f4 f6 f8 f9 f10 f11 f12 f13 f14 f16 f18 s) (namesM m rc t fr to) kp was pool tape pln pap rwd rw ∧ Same (mBlk x) h h') := by
  dsimp only [mFs] at hB
  refine RUNM.of (by decide +kernel) (Nat.le_of_ble_eq_true rfl) ?_
  have hto : to ≤ 12342 := by rcases hR with ⟨-, -, g⟩ | ⟨-, -, g⟩ <;> omega
  refine r_aload_n (pc := 0) dX11_names_0 rfl (by first | rfl | exact isRefV_rf _) ?_
  refine rm_getf (pc := 1) dX11_names_1 fX11_11 (by assumption) rfl ?_
  refine r_iload_n (pc := 4) dX11_names_4 rfl ?_
  refine rj_iconst (pc := 5) dX11_names_5 ?_
  refine rj_iconst (pc := 6) dX11_names_6 ?_
  refine r_callS3 (pc := 7) dX11_names_7 qX11_ofThing kX11_54 sX11_ofThing (Nat.le_of_ble_eq_true rfl) (m_ofThing d) (fun v_7 h_7 q_7 => ?_)
  obtain ⟨rfl, rfl⟩ := q_7
  refine r_iload (pc := 10) dX11_names_10 rfl ?_
  refine r_iload_n (pc := 12) dX11_names_12 rfl ?_
  refine rj_isub (pc := 13) dX11_names_13 ?_
  first | refine rm_iast0 (pc := 14) (j := 261 + 14 * t) dX11_names_14 (by assumption) (by first | assumption | exact b01_r | exact bz_r | omega | (constructor <;> omega) | exact hM _ | exact hPo _ | exact hTa _ | exact hRo _) (by first | assumption | exact b01_r | exact bz_r | omega | (constructor <;> omega) | exact hM _ | exact hPo _ | exact hTa _ | exact hRo _) (by first | assumption | exact b01_r | exact bz_r | omega | (constructor <;> omega) | exact hM _ | exact hPo _ | exact hTa _ | exact hRo _) (by omega) (fun h_14 hB_14 hS_14 => ?_)
  refine r_iload_n (pc := 15) dX11_names_15 rfl ?_
  refine r_istore (pc := 16) dX11_names_16 (Nat.le_of_ble_eq_true rfl) ?_
  dsimp only [lsSt, List.set, mLs, mEnt]
  have z := L_names (G := G) (l := l) d hR hft h7 ht (to - fr) fr _ _ hB_14 (Nat.le_refl _) (by omega)
  exact z.mono (fun v h' g => ⟨g.1, g.2.1, hS_14.trans g.2.2⟩)
end mg_30
