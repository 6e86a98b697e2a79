section mg_42
set_option maxHeartbeats 4000000 in
set_option maxRecDepth 100000 in
theorem m_entry {G : mG} {l : Launch} (d : Nat) {h : mH} {x s : Nat} {f4 f6 f8 f9 f10 f11 f12 f13 f14 f16 f18 : Int} {m kp was pool tape pln pap rwd rw : Nat → Int}(hB : isM h x (mFs x f4 f6 f8 f9 f10 f11 f12 f13 f14 f16 f18 s) m kp was pool tape pln pap rwd rw) (hM : ∀ q, InR (m q)) {N C : Nat} (hN : m 1 = (N : Int)) (hcap : N ≤ 90) (hC : m 0 = (C : Int)) (hC1 : 1 ≤ C) (hC2 : C ≤ 60) {a k : Int} (ha : InR a) (hk : InR k) (h6 : InR (m 6 + 1)) : RUNM G l (d + 4) mX11_entry [.ref x, .int (J a), .int (J k)] h (fun v h' => v = some (.int (J (entryV m N C a k))) ∧ h' = h) := by
  have hB0 := hB
  dsimp only [mFs] at hB
  refine RUNM.of (by decide +kernel) (Nat.le_of_ble_eq_true rfl) ?_
  have r0 := hM 0
  have rr := entsN_r (m := m) (a := a) hcap hC2
  have ra := eaV_r (m := m) (N := N) (C := C) (a := a) (st := m 6 + 1)
  refine r_aload_n (pc := 0) dX11_entry_0 rfl (by first | rfl | exact isRefV_rf _) ?_
  refine r_iload_n (pc := 1) dX11_entry_1 rfl ?_
  refine r_callV1 (pc := 2) dX11_entry_2 qX11_isScope kX11_50 vX11_isScope (by exact isM.gx (by assumption)) rfl rfl (Nat.le_of_ble_eq_true rfl) (m_isScope (d + 2) hB0 ha ⟨by omega, by omega⟩) (fun v_2 h_2 q_2 => ?_)
  obtain ⟨rfl, rfl⟩ := q_2
  refine rj_if_eq (pc := 5) (tgt := 23) dX11_entry_5 (by decide) (by first | assumption | exact b01_r | exact bz_r | omega | (constructor <;> omega) | exact hM _ | exact hPo _ | exact hTa _ | exact hRo _) (fun c_5 => ?_) (fun c_5 => ?_)
  · try simp only [b01_0, bz_0, Classical.not_not] at c_5
    refine rj_iconst (pc := 23) dX11_entry_23 ?_
    refine r_ireturn (pc := 24) .int dX11_entry_24 rfl (by first | rfl | assumption) ?_
    first
    | exact ⟨by unfold entryV; rw [if_neg (fun g => c_5 g.1)], rfl⟩
    | exact ⟨by unfold entryV; rw [if_neg (fun g => c_20 g.2)], rfl⟩
  · try simp only [b01_0, bz_0, Classical.not_not] at c_5
    refine r_iload_n (pc := 8) dX11_entry_8 rfl ?_
    refine rj_iconst (pc := 9) dX11_entry_9 ?_
    refine r_aload_n (pc := 10) dX11_entry_10 rfl (by first | rfl | exact isRefV_rf _) ?_
    refine r_iload_n (pc := 11) dX11_entry_11 rfl ?_
    refine r_callV1 (pc := 12) dX11_entry_12 qX11_entries kX11_241 vX11_entries (by exact isM.gx (by assumption)) rfl rfl (Nat.le_of_ble_eq_true rfl) (m_entries (d + 1) hB0 hM hN hcap hC hC1 hC2 ha) (fun v_12 h_12 q_12 => ?_)
    obtain ⟨rfl, rfl⟩ := q_12
    refine rj_iconst (pc := 15) dX11_entry_15 ?_
    refine rj_isub (pc := 16) dX11_entry_16 ?_
    refine r_callS3 (pc := 17) dX11_entry_17 qX11_isIn kX11_46 sX11_isIn (Nat.le_of_ble_eq_true rfl) (m_isIn (d + 3) hk (by decide) ⟨by omega, by omega⟩) (fun v_17 h_17 q_17 => ?_)
    obtain ⟨rfl, rfl⟩ := q_17
    refine rj_if_ne (pc := 20) (tgt := 25) dX11_entry_20 (by decide) (by first | assumption | exact b01_r | exact bz_r | omega | (constructor <;> omega) | exact hM _ | exact hPo _ | exact hTa _ | exact hRo _) (fun c_20 => ?_) (fun c_20 => ?_)
    · try simp only [b01_0, bz_0, Classical.not_not] at c_20
      refine r_aload_n (pc := 25) dX11_entry_25 rfl (by first | rfl | exact isRefV_rf _) ?_
      refine r_iload_n (pc := 26) dX11_entry_26 rfl ?_
      refine r_aload_n (pc := 27) dX11_entry_27 rfl (by first | rfl | exact isRefV_rf _) ?_
      refine rm_getf (pc := 28) dX11_entry_28 fX11_11 (by assumption) rfl ?_
      refine rj_bipush (pc := 31) dX11_entry_31 (by decide +kernel) ?_
      refine rj_iald (pc := 33) (j := 6) dX11_entry_33 (by first | exact isM.g0 (by assumption) | exact isM.g3 (by assumption) | exact isM.g4 (by assumption) | exact isM.g8 (by assumption) | exact isM.g7 (by assumption) | exact isM.g6 (by assumption) | exact isM.g5 (by assumption) | exact isM.g1 (by assumption) | exact isM.g2 (by assumption)) (by first | assumption | exact b01_r | exact bz_r | omega | (constructor <;> omega) | exact hM _ | exact hPo _ | exact hTa _ | exact hRo _) (by first | assumption | exact b01_r | exact bz_r | omega | (constructor <;> omega) | exact hM _ | exact hPo _ | exact hTa _ | exact hRo _) (by first | assumption | exact b01_r | exact bz_r | omega | (constructor <;> omega) | exact hM _ | exact hPo _ | exact hTa _ | exact hRo _) rfl ?_
      refine rj_iconst (pc := 34) dX11_entry_34 ?_
      refine rj_iadd (pc := 35) dX11_entry_35 ?_
      refine r_callV2 (pc := 36) dX11_entry_36 qX11_entryAhead kX11_261 vX11_entryAhead (by exact isM.gx (by assumption)) rfl rfl (Nat.le_of_ble_eq_true rfl) (m_entryAhead d hB0 hM hN hcap hC hC2 ha h6) (fun v_36 h_36 q_36 => ?_)
      obtain ⟨rfl, rfl⟩ := q_36
      refine r_istore_n (pc := 39) dX11_entry_39 (Nat.le_of_ble_eq_true rfl) ?_
      dsimp only [lsSt, List.set, mLs, mEnt]
      refine r_aload_n (pc := 40) dX11_entry_40 rfl (by first | rfl | exact isRefV_rf _) ?_
      refine r_iload_n (pc := 41) dX11_entry_41 rfl ?_
      refine r_callV1 (pc := 42) dX11_entry_42 qX11_entries kX11_241 vX11_entries (by exact isM.gx (by assumption)) rfl rfl (Nat.le_of_ble_eq_true rfl) (m_entries (d + 1) hB0 hM hN hcap hC hC1 hC2 ha) (fun v_42 h_42 q_42 => ?_)
      obtain ⟨rfl, rfl⟩ := q_42
      refine rj_iconst (pc := 45) dX11_entry_45 ?_
      refine rj_isub (pc := 46) dX11_entry_46 ?_
      refine r_istore (pc := 47) dX11_entry_47 (Nat.le_of_ble_eq_true rfl) ?_
      dsimp only [lsSt, List.set, mLs, mEnt]
      have z := L_entry (G := G) (l := l) d (k := k) hB0 hM hN hcap hC hC1 hC2 ha (entsN m a N C - 1 - k).toNat (eaV m N C a (m 6 + 1)) ra.1 ra.2 (by omega) (by omega)
      rw [show k + ((entsN m a N C - 1 - k).toNat : Int) = entsN m a N C - 1 by omega] at z
      rw [show entryV m N C a k = enL m N C a (entsN m a N C - 1 - k).toNat (eaV m N C a (m 6 + 1)) by unfold entryV; rw [if_pos ⟨c_5, c_20⟩]]
      exact z
    · try simp only [b01_0, bz_0, Classical.not_not] at c_20
      refine rj_iconst (pc := 23) dX11_entry_23 ?_
      refine r_ireturn (pc := 24) .int dX11_entry_24 rfl (by first | rfl | assumption) ?_
      first
      | exact ⟨by unfold entryV; rw [if_neg (fun g => c_5 g.1)], rfl⟩
      | exact ⟨by unfold entryV; rw [if_neg (fun g => c_20 g.2)], rfl⟩
end mg_42
