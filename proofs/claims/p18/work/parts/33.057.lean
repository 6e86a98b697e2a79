section mg_42
set_option maxHeartbeats 4000000 in
set_option maxRecDepth 100000 in
theorem m_fault {G : mG} {l : Launch} (d : Nat) {h : mH} {x s : Nat} {f4 f6 f8 f9 f10 f11 f12 f13 f14 f16 f18 : Int} {m kp was pool tape pln pap rwd rw : Nat → Int}(hB : isM h x (mFs x f4 f6 f8 f9 f10 f11 f12 f13 f14 f16 f18 s) m kp was pool tape pln pap rwd rw) (hM : ∀ q, InR (m q)) (h3 : 0 ≤ m 3 ∧ m 3 ≤ 10) {N : Nat} (hN : m 4 = (N : Int)) (hcap : N ≤ 120) (h5 : 0 ≤ m 5 ∧ m 5 ≤ 120) {t k w : Int} (ht : InR t) (hk : InR k) (hw : InR w) : RUNM G l (d + 4) mX11_fault [.ref x, .int (J t), .int (J k), .int (J w)] h (fun v h' => v = some (.int (J (faultV m N t k w))) ∧ h' = h) := by
  have hB0 := hB
  dsimp only [mFs] at hB
  refine RUNM.of (by decide +kernel) (Nat.le_of_ble_eq_true rfl) ?_
  have rm := manyV_r (t := t) hcap h5
  refine r_aload_n (pc := 0) dX11_fault_0 rfl (by first | rfl | exact isRefV_rf _) ?_
  refine r_iload_n (pc := 1) dX11_fault_1 rfl ?_
  refine r_callV1 (pc := 2) dX11_fault_2 qX11_hasFaults kX11_229 vX11_hasFaults (by exact isM.gx (by assumption)) rfl rfl (Nat.le_of_ble_eq_true rfl) (m_hasFaults (d + 1) hB0 hM h3 ht) (fun v_2 h_2 q_2 => ?_)
  obtain ⟨rfl, rfl⟩ := q_2
  refine rj_if_eq (pc := 5) (tgt := 42) dX11_fault_5 (by decide) (by first | assumption | exact b01_r | exact bz_r | omega | (constructor <;> omega) | exact hM _ | exact hPo _ | exact hTa _ | exact hRo _) (fun c_5 => ?_) (fun c_5 => ?_)
  · try simp only [b01_0, bz_0, Classical.not_not] at c_5
    refine rj_iconst (pc := 42) dX11_fault_42 ?_
    refine r_ireturn (pc := 43) .int dX11_fault_43 rfl (by first | rfl | assumption) ?_
    first
    | exact ⟨by unfold faultV; rw [if_neg (fun g => c_5 g.1)], rfl⟩
    | exact ⟨by unfold faultV; rw [if_neg (fun g => c_14 g.2.1)], rfl⟩
    | exact ⟨by unfold faultV; rw [if_neg (fun g => c_29 g.2.2)], rfl⟩
    | exact ⟨by unfold faultV; rw [if_pos ⟨c_5, c_14, c_29⟩], rfl⟩
  · try simp only [b01_0, bz_0, Classical.not_not] at c_5
    refine r_iload_n (pc := 8) dX11_fault_8 rfl ?_
    refine rj_iconst (pc := 9) dX11_fault_9 ?_
    refine rj_iconst (pc := 10) dX11_fault_10 ?_
    refine r_callS3 (pc := 11) dX11_fault_11 qX11_isIn kX11_46 sX11_isIn (Nat.le_of_ble_eq_true rfl) (m_isIn (d + 3) hw (by decide) (by decide)) (fun v_11 h_11 q_11 => ?_)
    obtain ⟨rfl, rfl⟩ := q_11
    refine rj_if_eq (pc := 14) (tgt := 42) dX11_fault_14 (by decide) (by first | assumption | exact b01_r | exact bz_r | omega | (constructor <;> omega) | exact hM _ | exact hPo _ | exact hTa _ | exact hRo _) (fun c_14 => ?_) (fun c_14 => ?_)
    · try simp only [b01_0, bz_0, Classical.not_not] at c_14
      refine rj_iconst (pc := 42) dX11_fault_42 ?_
      refine r_ireturn (pc := 43) .int dX11_fault_43 rfl (by first | rfl | assumption) ?_
      first
      | exact ⟨by unfold faultV; rw [if_neg (fun g => c_5 g.1)], rfl⟩
      | exact ⟨by unfold faultV; rw [if_neg (fun g => c_14 g.2.1)], rfl⟩
      | exact ⟨by unfold faultV; rw [if_neg (fun g => c_29 g.2.2)], rfl⟩
      | exact ⟨by unfold faultV; rw [if_pos ⟨c_5, c_14, c_29⟩], rfl⟩
    · try simp only [b01_0, bz_0, Classical.not_not] at c_14
      refine r_iload_n (pc := 17) dX11_fault_17 rfl ?_
      refine rj_iconst (pc := 18) dX11_fault_18 ?_
      refine r_aload_n (pc := 19) dX11_fault_19 rfl (by first | rfl | exact isRefV_rf _) ?_
      refine r_iload_n (pc := 20) dX11_fault_20 rfl ?_
      refine r_callV1 (pc := 21) dX11_fault_21 qX11_manyFaults kX11_232 vX11_manyFaults (by exact isM.gx (by assumption)) rfl rfl (Nat.le_of_ble_eq_true rfl) (m_manyFaults d hB0 hM hN hcap ht (by omega)) (fun v_21 h_21 q_21 => ?_)
      obtain ⟨rfl, rfl⟩ := q_21
      refine rj_iconst (pc := 24) dX11_fault_24 ?_
      refine rj_isub (pc := 25) dX11_fault_25 ?_
      refine r_callS3 (pc := 26) dX11_fault_26 qX11_isIn kX11_46 sX11_isIn (Nat.le_of_ble_eq_true rfl) (m_isIn (d + 3) hk (by decide) ⟨by omega, by omega⟩) (fun v_26 h_26 q_26 => ?_)
      obtain ⟨rfl, rfl⟩ := q_26
      refine rj_if_eq (pc := 29) (tgt := 42) dX11_fault_29 (by decide) (by first | assumption | exact b01_r | exact bz_r | omega | (constructor <;> omega) | exact hM _ | exact hPo _ | exact hTa _ | exact hRo _) (fun c_29 => ?_) (fun c_29 => ?_)
      · try simp only [b01_0, bz_0, Classical.not_not] at c_29
        refine rj_iconst (pc := 42) dX11_fault_42 ?_
        refine r_ireturn (pc := 43) .int dX11_fault_43 rfl (by first | rfl | assumption) ?_
        first
        | exact ⟨by unfold faultV; rw [if_neg (fun g => c_5 g.1)], rfl⟩
        | exact ⟨by unfold faultV; rw [if_neg (fun g => c_14 g.2.1)], rfl⟩
        | exact ⟨by unfold faultV; rw [if_neg (fun g => c_29 g.2.2)], rfl⟩
        | exact ⟨by unfold faultV; rw [if_pos ⟨c_5, c_14, c_29⟩], rfl⟩
      · try simp only [b01_0, bz_0, Classical.not_not] at c_29
        refine r_aload_n (pc := 32) dX11_fault_32 rfl (by first | rfl | exact isRefV_rf _) ?_
        refine r_iload_n (pc := 33) dX11_fault_33 rfl ?_
        refine r_iload_n (pc := 34) dX11_fault_34 rfl ?_
        refine r_iload_n (pc := 35) dX11_fault_35 rfl ?_
        refine r_callV3 (pc := 36) dX11_fault_36 qX11_faultAt kX11_235 vX11_faultAt (by exact isM.gx (by assumption)) rfl rfl (Nat.le_of_ble_eq_true rfl) (m_faultAt (d + 2) hB0 hM hN hcap ht c_14 (by omega) (by omega) (by omega) (by omega)) (fun v_36 h_36 q_36 => ?_)
        obtain ⟨rfl, rfl⟩ := q_36
        refine r_goto (pc := 39) (tgt := 43) dX11_fault_39 (by decide) ?_
        refine r_ireturn (pc := 43) .int dX11_fault_43 rfl (by first | rfl | assumption) ?_
        first
        | exact ⟨by unfold faultV; rw [if_neg (fun g => c_5 g.1)], rfl⟩
        | exact ⟨by unfold faultV; rw [if_neg (fun g => c_14 g.2.1)], rfl⟩
        | exact ⟨by unfold faultV; rw [if_neg (fun g => c_29 g.2.2)], rfl⟩
        | exact ⟨by unfold faultV; rw [if_pos ⟨c_5, c_14, c_29⟩], rfl⟩
end mg_42
