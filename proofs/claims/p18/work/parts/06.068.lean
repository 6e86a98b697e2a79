section mg_29
set_option maxHeartbeats 4000000 in
set_option maxRecDepth 100000 in
theorem m_isNamed {G : mG} {l : Launch} (d : Nat) {h : mH} {x s : Nat} {f4 f6 f8 f9 f10 f11 f12 f13 f14 f16 f18 : Int} {m kp was pool tape pln pap rwd rw : Nat → Int}(hB : isM h x (mFs x f4 f6 f8 f9 f10 f11 f12 f13 f14 f16 f18 s) m kp was pool tape pln pap rwd rw) (hM : ∀ q, InR (m q)) {rs : Nat} {rc : Nat → Int} {fr to : Nat} (hR : rowOk rs rc pool tape to) (hft : fr ≤ to) (hRo : ∀ q, InR (rc q)) {t : Nat} (ht : t ≤ 89) (h7 : m (261 + 14 * t) ≤ 7) : RUNM G l (d + 1) mX11_isNamed [.ref x, .int (J (t : Int)), .ref (mAd x rs), .int (J (fr : Int)), .int (J (to : Int))] h (fun v h' => v = some (.int (J (bz (namedB m rc t fr to)))) ∧ h' = h) := by
  dsimp only [mFs] at hB
  refine RUNM.of (by decide +kernel) (Nat.le_of_ble_eq_true rfl) ?_
  have hto : to ≤ 12342 := by rcases hR with ⟨-, -, g⟩ | ⟨-, -, g⟩ <;> omega
  refine r_aload_n (pc := 0) dX11_isNamed_0 rfl (by first | rfl | exact isRefV_rf _) ?_
  refine rm_getf (pc := 1) dX11_isNamed_1 fX11_11 (by assumption) rfl ?_
  refine r_iload_n (pc := 4) dX11_isNamed_4 rfl ?_
  refine rj_iconst (pc := 5) dX11_isNamed_5 ?_
  refine rj_iconst (pc := 6) dX11_isNamed_6 ?_
  refine r_callS3 (pc := 7) dX11_isNamed_7 qX11_ofThing kX11_54 sX11_ofThing (Nat.le_of_ble_eq_true rfl) (m_ofThing d) (fun v_7 h_7 q_7 => ?_)
  obtain ⟨rfl, rfl⟩ := q_7
  refine rj_iald (pc := 10) (j := 261 + 14 * t) dX11_isNamed_10 (by first | exact isM.g0 (by assumption) | exact isM.g3 (by assumption) | exact isM.g4 (by assumption) | exact isM.g8 (by assumption) | exact isM.g7 (by assumption) | exact isM.g6 (by assumption) | exact isM.g5 (by assumption) | exact isM.g1 (by assumption) | exact isM.g2 (by assumption)) (by first | assumption | exact b01_r | exact bz_r | omega | (constructor <;> omega) | exact hM _ | exact hPo _ | exact hTa _ | exact hRo _) (by first | assumption | exact b01_r | exact bz_r | omega | (constructor <;> omega) | exact hM _ | exact hPo _ | exact hTa _ | exact hRo _) (by first | assumption | exact b01_r | exact bz_r | omega | (constructor <;> omega) | exact hM _ | exact hPo _ | exact hTa _ | exact hRo _) (by omega) ?_
  refine r_iload (pc := 11) dX11_isNamed_11 rfl ?_
  refine r_iload_n (pc := 13) dX11_isNamed_13 rfl ?_
  refine rj_isub (pc := 14) dX11_isNamed_14 ?_
  refine rj_icmp_eq (pc := 15) (tgt := 20) dX11_isNamed_15 (by decide) (by first | assumption | exact b01_r | exact bz_r | omega | (constructor <;> omega) | exact hM _ | exact hPo _ | exact hTa _ | exact hRo _) (by first | assumption | exact b01_r | exact bz_r | omega | (constructor <;> omega) | exact hM _ | exact hPo _ | exact hTa _ | exact hRo _) (fun c_15 => ?_) (fun c_15 => ?_)
  · refine r_iload_n (pc := 20) dX11_isNamed_20 rfl ?_
    refine r_istore (pc := 21) dX11_isNamed_21 (Nat.le_of_ble_eq_true rfl) ?_
    dsimp only [lsSt, List.set, mLs, mEnt]
    have z := L_isNamed (G := G) (l := l) d hB hM hR hft hRo ht (by omega) (to - fr) fr (Nat.le_refl _) (by omega)
    rw [show namedB m rc t fr to = nmL m rc t fr (to - fr) fr by unfold namedB; rw [decide_eq_true (by omega), Bool.true_and]]
    exact z
  · refine rj_iconst (pc := 18) dX11_isNamed_18 ?_
    refine r_ireturn (pc := 19) .boolean dX11_isNamed_19 rfl (by first | exact nar_J0 | exact nar_J1 | exact nar_b01 | exact nar_bz) ?_
    exact ⟨by unfold namedB; rw [decide_eq_false (by omega), Bool.false_and]; exact bzF, rfl⟩
end mg_29
