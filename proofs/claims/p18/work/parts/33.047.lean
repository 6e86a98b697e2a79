section mg_40
set_option maxHeartbeats 4000000 in
set_option maxRecDepth 100000 in
theorem m_get {G : mG} {l : Launch} (d : Nat) {h : mH} {x s : Nat} {f4 f6 f8 f9 f10 f11 f12 f13 f14 f16 f18 : Int} {m kp was pool tape pln pap rwd rw : Nat → Int}(hB : isM h x (mFs x f4 f6 f8 f9 f10 f11 f12 f13 f14 f16 f18 s) m kp was pool tape pln pap rwd rw) (hRo : ∀ q, InR (rwd q)) {a : Int} (ha : InR a) {i : Int} (hi : InR i) (h40 : ∀ q, rwd q ≤ 40) : RUNM G l (d + 3) mX11_get [.ref x, .int (J a), .int (J i)] h (fun v h' => v = some (getV rwd rw a i) ∧ h' = h) := by
  have hB0 := hB
  dsimp only [mFs] at hB
  refine RUNM.of (by decide +kernel) (Nat.le_of_ble_eq_true rfl) ?_
  refine r_aload_n (pc := 0) dX11_get_0 rfl (by first | rfl | exact isRefV_rf _) ?_
  refine r_iload_n (pc := 1) dX11_get_1 rfl ?_
  refine r_callV1 (pc := 2) dX11_get_2 qX11_wrong kX11_307 vX11_wrong (by exact isM.gx (by assumption)) rfl rfl (Nat.le_of_ble_eq_true rfl) (m_wrong d hB0 hRo ha) (fun v_2 h_2 q_2 => ?_)
  obtain ⟨rfl, rfl⟩ := q_2
  have wr := wrong_r (rwd := rwd) (a := a)
  refine rj_if_ne (pc := 5) (tgt := 24) dX11_get_5 (by decide) (by first | assumption | exact b01_r | exact bz_r | omega | (constructor <;> omega) | exact hM _ | exact hPo _ | exact hTa _ | exact hRo _) (fun c_5 => ?_) (fun c_5 => ?_)
  · try simp only [b01_0, bz_0, Classical.not_not] at c_5
    refine r_ldc2 (pc := 24) dX11_get_24 oX11_244 ?_
    refine r_goto (pc := 27) (tgt := 42) dX11_get_27 (by decide) ?_
    refine r_lreturn (pc := 42) dX11_get_42 rfl ?_
    first
    | exact ⟨by unfold getV; rw [if_pos ⟨c_5, c_21⟩]; rfl, rfl⟩
    | exact ⟨by unfold getV; rw [if_neg (fun g => c_5 g.1)]; rfl, rfl⟩
    | exact ⟨by unfold getV; rw [if_neg (fun g => c_21 g.2)]; rfl, rfl⟩
  · try simp only [b01_0, bz_0, Classical.not_not] at c_5
    have w0 := wrong_0 c_5
    have r4 := h40 a.toNat
    refine r_iload_n (pc := 8) dX11_get_8 rfl ?_
    refine rj_iconst (pc := 9) dX11_get_9 ?_
    refine r_aload_n (pc := 10) dX11_get_10 rfl (by first | rfl | exact isRefV_rf _) ?_
    refine rm_getf (pc := 11) dX11_get_11 fX11_36 (by assumption) rfl ?_
    refine r_iload_n (pc := 14) dX11_get_14 rfl ?_
    refine rj_iald (pc := 15) dX11_get_15 (by first | exact isM.g0 (by assumption) | exact isM.g3 (by assumption) | exact isM.g4 (by assumption) | exact isM.g8 (by assumption) | exact isM.g7 (by assumption) | exact isM.g6 (by assumption) | exact isM.g5 (by assumption) | exact isM.g1 (by assumption) | exact isM.g2 (by assumption)) (by first | assumption | exact b01_r | exact bz_r | omega | (constructor <;> omega) | exact hM _ | exact hPo _ | exact hTa _ | exact hRo _) (by first | assumption | exact b01_r | exact bz_r | omega | (constructor <;> omega) | exact hM _ | exact hPo _ | exact hTa _ | exact hRo _) (by first | assumption | exact b01_r | exact bz_r | omega | (constructor <;> omega) | exact hM _ | exact hPo _ | exact hTa _ | exact hRo _) rfl ?_
    refine rj_iconst (pc := 16) dX11_get_16 ?_
    refine rj_isub (pc := 17) dX11_get_17 ?_
    refine r_callS3 (pc := 18) dX11_get_18 qX11_isIn kX11_46 sX11_isIn (Nat.le_of_ble_eq_true rfl) (m_isIn (d + 2) hi (by decide) ⟨by omega, by omega⟩) (fun v_18 h_18 q_18 => ?_)
    obtain ⟨rfl, rfl⟩ := q_18
    refine rj_if_ne (pc := 21) (tgt := 30) dX11_get_21 (by decide) (by first | assumption | exact b01_r | exact bz_r | omega | (constructor <;> omega) | exact hM _ | exact hPo _ | exact hTa _ | exact hRo _) (fun c_21 => ?_) (fun c_21 => ?_)
    · try simp only [b01_0, bz_0, Classical.not_not] at c_21
      refine r_aload_n (pc := 30) dX11_get_30 rfl (by first | rfl | exact isRefV_rf _) ?_
      refine rm_getf (pc := 31) dX11_get_31 fX11_39 (by assumption) rfl ?_
      refine rj_bipush (pc := 34) dX11_get_34 (by decide +kernel) ?_
      refine r_iload_n (pc := 36) dX11_get_36 rfl ?_
      refine rj_imul (pc := 37) dX11_get_37 ?_
      refine r_iload_n (pc := 38) dX11_get_38 rfl ?_
      refine rj_iadd (pc := 39) dX11_get_39 ?_
      refine rj_iald (pc := 40) (j := (40 * a + i).toNat) dX11_get_40 (by first | exact isM.g0 (by assumption) | exact isM.g3 (by assumption) | exact isM.g4 (by assumption) | exact isM.g8 (by assumption) | exact isM.g7 (by assumption) | exact isM.g6 (by assumption) | exact isM.g5 (by assumption) | exact isM.g1 (by assumption) | exact isM.g2 (by assumption)) (by first | assumption | exact b01_r | exact bz_r | omega | (constructor <;> omega) | exact hM _ | exact hPo _ | exact hTa _ | exact hRo _) (by first | assumption | exact b01_r | exact bz_r | omega | (constructor <;> omega) | exact hM _ | exact hPo _ | exact hTa _ | exact hRo _) (by first | assumption | exact b01_r | exact bz_r | omega | (constructor <;> omega) | exact hM _ | exact hPo _ | exact hTa _ | exact hRo _) (by omega) ?_
      refine r_i2l (pc := 41) dX11_get_41 ?_
      refine r_lreturn (pc := 42) dX11_get_42 rfl ?_
      first
      | exact ⟨by unfold getV; rw [if_pos ⟨c_5, c_21⟩]; rfl, rfl⟩
      | exact ⟨by unfold getV; rw [if_neg (fun g => c_5 g.1)]; rfl, rfl⟩
      | exact ⟨by unfold getV; rw [if_neg (fun g => c_21 g.2)]; rfl, rfl⟩
    · try simp only [b01_0, bz_0, Classical.not_not] at c_21
      refine r_ldc2 (pc := 24) dX11_get_24 oX11_244 ?_
      refine r_goto (pc := 27) (tgt := 42) dX11_get_27 (by decide) ?_
      refine r_lreturn (pc := 42) dX11_get_42 rfl ?_
      first
      | exact ⟨by unfold getV; rw [if_pos ⟨c_5, c_21⟩]; rfl, rfl⟩
      | exact ⟨by unfold getV; rw [if_neg (fun g => c_5 g.1)]; rfl, rfl⟩
      | exact ⟨by unfold getV; rw [if_neg (fun g => c_21 g.2)]; rfl, rfl⟩
end mg_40
