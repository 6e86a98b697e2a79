/-! ===== contracts of the reference: counters, cancel, rank, below, youngest ===== -/
/-- an int's own whole number -/
noncomputable def wrap (z : Int) : Int := (J z).toInt
theorem J_wrap (z : Int) : J z = J (wrap z) := J_of (J z)
theorem wrap_r (z : Int) : InR (wrap z) := J_rg (J z)
noncomputable def countV (m : Nat → Int) (k v : Int) : Int := if 0 ≤ k ∧ k ≤ 7 then wrap (m (10 + k).toNat + v) else -1
set_option maxHeartbeats 4000000 in
set_option maxRecDepth 100000 in
theorem m_count {G : mG} {l : Launch} (d : Nat) {h : mH} {x s : Nat} {f4 f6 f8 f9 f10 f11 f12 f13 f14 f16 f18 : Int} {m kp was pool tape pln pap rwd rw : Nat → Int}(hB : isM h x (mFs x f4 f6 f8 f9 f10 f11 f12 f13 f14 f16 f18 s) m kp was pool tape pln pap rwd rw) {k e : Int} (hk : InR k) : RUNM G l (d + 1) mX11_count [.ref x, .int (J k), .int (J e)] h (fun v h' => v = some (.int (J (countV m k e))) ∧ ((¬ (0 ≤ k ∧ k ≤ 7) ∧ h' = h) ∨ ((0 ≤ k ∧ k ≤ 7) ∧ isM h' x (mFs x f4 f6 f8 f9 f10 f11 f12 f13 f14 f16 f18 s) (updI m (10 + k).toNat (countV m k e)) kp was pool tape pln pap rwd rw ∧ Same (mBlk x) h h'))) := by
  dsimp only [mFs] at hB
  refine RUNM.of (by decide +kernel) (Nat.le_of_ble_eq_true rfl) ?_
  refine r_iload_n (pc := 0) dX11_count_0 rfl ?_
  refine rj_iconst (pc := 1) dX11_count_1 ?_
  refine rj_bipush (pc := 2) dX11_count_2 (by decide +kernel) ?_
  refine r_callS3 (pc := 4) dX11_count_4 qX11_isIn kX11_46 sX11_isIn (Nat.le_of_ble_eq_true rfl) (m_isIn d hk (by decide) (by decide)) (fun v_4 h_4 q_4 => ?_)
  obtain ⟨rfl, rfl⟩ := q_4
  refine rj_if_ne (pc := 7) (tgt := 12) dX11_count_7 (by decide) (by first | assumption | exact b01_r | exact bz_r | omega | (constructor <;> omega) | exact hM _ | exact hPo _ | exact hTa _ | exact hRo _) (fun c_7 => ?_) (fun c_7 => ?_)
  · try simp only [b01_0, bz_0, Classical.not_not] at c_7
    refine r_aload_n (pc := 12) dX11_count_12 rfl (by first | rfl | exact isRefV_rf _) ?_
    refine rm_getf (pc := 13) dX11_count_13 fX11_11 (by assumption) rfl ?_
    refine rj_bipush (pc := 16) dX11_count_16 (by decide +kernel) ?_
    refine r_iload_n (pc := 18) dX11_count_18 rfl ?_
    refine rj_iadd (pc := 19) dX11_count_19 ?_
    refine r_dup2 (pc := 20) dX11_count_20 rfl rfl ?_
    refine rj_iald (pc := 21) (j := (10 + k).toNat) dX11_count_21 (by first | exact isM.g0 (by assumption) | exact isM.g3 (by assumption) | exact isM.g4 (by assumption) | exact isM.g8 (by assumption) | exact isM.g7 (by assumption) | exact isM.g6 (by assumption) | exact isM.g5 (by assumption) | exact isM.g1 (by assumption) | exact isM.g2 (by assumption)) (by first | assumption | exact b01_r | exact bz_r | omega | (constructor <;> omega) | exact hM _ | exact hPo _ | exact hTa _ | exact hRo _) (by first | assumption | exact b01_r | exact bz_r | omega | (constructor <;> omega) | exact hM _ | exact hPo _ | exact hTa _ | exact hRo _) (by first | assumption | exact b01_r | exact bz_r | omega | (constructor <;> omega) | exact hM _ | exact hPo _ | exact hTa _ | exact hRo _) rfl ?_
    refine r_iload_n (pc := 22) dX11_count_22 rfl ?_
    refine rj_iadd (pc := 23) dX11_count_23 ?_
    have e1 : countV m k e = wrap (m (10 + k).toNat + e) := by unfold countV; rw [if_pos c_7]
    rw [J_wrap (m (10 + k).toNat + e), ← e1]
    first | refine rm_iast0 (pc := 24) (j := (10 + k).toNat) dX11_count_24 (by assumption) (by first | assumption | exact b01_r | exact bz_r | omega | (constructor <;> omega) | exact hM _ | exact hPo _ | exact hTa _ | exact hRo _) (by first | assumption | exact b01_r | exact bz_r | omega | (constructor <;> omega) | exact hM _ | exact hPo _ | exact hTa _ | exact hRo _) (by first | assumption | exact b01_r | exact bz_r | omega | (constructor <;> omega) | exact hM _ | exact hPo _ | exact hTa _ | exact hRo _) (by omega) (fun h_24 hB_24 hS_24 => ?_)
    refine r_aload_n (pc := 25) dX11_count_25 rfl (by first | rfl | exact isRefV_rf _) ?_
    refine rm_getf (pc := 26) dX11_count_26 fX11_11 (by assumption) rfl ?_
    refine rj_bipush (pc := 29) dX11_count_29 (by decide +kernel) ?_
    refine r_iload_n (pc := 31) dX11_count_31 rfl ?_
    refine rj_iadd (pc := 32) dX11_count_32 ?_
    refine rj_iald (pc := 33) (j := (10 + k).toNat) dX11_count_33 (by first | exact isM.g0 (by assumption) | exact isM.g3 (by assumption) | exact isM.g4 (by assumption) | exact isM.g8 (by assumption) | exact isM.g7 (by assumption) | exact isM.g6 (by assumption) | exact isM.g5 (by assumption) | exact isM.g1 (by assumption) | exact isM.g2 (by assumption)) (by first | assumption | exact b01_r | exact bz_r | omega | (constructor <;> omega) | exact hM _ | exact hPo _ | exact hTa _ | exact hRo _) (by first | assumption | exact b01_r | exact bz_r | omega | (constructor <;> omega) | exact hM _ | exact hPo _ | exact hTa _ | exact hRo _) (by first | assumption | exact b01_r | exact bz_r | omega | (constructor <;> omega) | exact hM _ | exact hPo _ | exact hTa _ | exact hRo _) (by omega) ?_
    rw [updI_s]
    refine r_ireturn (pc := 34) .int dX11_count_34 rfl (by first | rfl | assumption) ?_
    exact ⟨rfl, Or.inr ⟨c_7, hB_24, hS_24⟩⟩
  · try simp only [b01_0, bz_0, Classical.not_not] at c_7
    refine rj_iconst (pc := 10) dX11_count_10 ?_
    refine r_ireturn (pc := 11) .int dX11_count_11 rfl (by first | rfl | assumption) ?_
    exact ⟨by unfold countV; rw [if_neg c_7], Or.inl ⟨c_7, rfl⟩⟩
def cancelV (m : Nat → Int) (t : Int) : Int := if 0 ≤ t ∧ t ≤ m 3 - 1 then (if m (1610 + 72 * t).toNat = 0 then 1 - m (1614 + 72 * t).toNat else -3) else -1
def canDo (m : Nat → Int) (t : Int) : Prop := (0 ≤ t ∧ t ≤ m 3 - 1) ∧ m (1610 + 72 * t).toNat = 0
set_option maxHeartbeats 4000000 in
set_option maxRecDepth 100000 in
theorem m_cancel {G : mG} {l : Launch} (d : Nat) {h : mH} {x s : Nat} {f4 f6 f8 f9 f10 f11 f12 f13 f14 f16 f18 : Int} {m kp was pool tape pln pap rwd rw : Nat → Int}(hB : isM h x (mFs x f4 f6 f8 f9 f10 f11 f12 f13 f14 f16 f18 s) m kp was pool tape pln pap rwd rw) (hM : ∀ q, InR (m q)) (h3 : 0 ≤ m 3 ∧ m 3 ≤ 10) {t : Int} (ht : InR t) : RUNM G l (d + 3) mX11_cancel [.ref x, .int (J t)] h (fun v h' => v = some (.int (J (cancelV m t))) ∧ ((¬ canDo m t ∧ h' = h) ∨ (canDo m t ∧ isM h' x (mFs x f4 f6 f8 f9 f10 f11 f12 f13 f14 f16 f18 s) (updI m (1614 + 72 * t).toNat 1) kp was pool tape pln pap rwd rw ∧ Same (mBlk x) h h'))) := by
  have hB0 := hB
  dsimp only [mFs] at hB
  refine RUNM.of (by decide +kernel) (Nat.le_of_ble_eq_true rfl) ?_
  refine r_aload_n (pc := 0) dX11_cancel_0 rfl (by first | rfl | exact isRefV_rf _) ?_
  refine r_iload_n (pc := 1) dX11_cancel_1 rfl ?_
  refine r_callV1 (pc := 2) dX11_cancel_2 qX11_isTask kX11_180 vX11_isTask (by exact isM.gx (by assumption)) rfl rfl (Nat.le_of_ble_eq_true rfl) (m_isTask (d + 1) hB0 ht ⟨by omega, by omega⟩) (fun v_2 h_2 q_2 => ?_)
  obtain ⟨rfl, rfl⟩ := q_2
  refine rj_if_ne (pc := 5) (tgt := 10) dX11_cancel_5 (by decide) (by first | assumption | exact b01_r | exact bz_r | omega | (constructor <;> omega) | exact hM _ | exact hPo _ | exact hTa _ | exact hRo _) (fun c_5 => ?_) (fun c_5 => ?_)
  · try simp only [b01_0, bz_0, Classical.not_not] at c_5
    refine r_aload_n (pc := 10) dX11_cancel_10 rfl (by first | rfl | exact isRefV_rf _) ?_
    refine r_iload_n (pc := 11) dX11_cancel_11 rfl ?_
    refine r_callV1 (pc := 12) dX11_cancel_12 qX11_isReady kX11_183 vX11_isReady (by exact isM.gx (by assumption)) rfl rfl (Nat.le_of_ble_eq_true rfl) (m_isReady (d + 1) hB0 hM (by omega) (by omega)) (fun v_12 h_12 q_12 => ?_)
    obtain ⟨rfl, rfl⟩ := q_12
    refine rj_if_ne (pc := 15) (tgt := 21) dX11_cancel_15 (by decide) (by first | assumption | exact b01_r | exact bz_r | omega | (constructor <;> omega) | exact hM _ | exact hPo _ | exact hTa _ | exact hRo _) (fun c_15 => ?_) (fun c_15 => ?_)
    · try simp only [b01_0, bz_0, Classical.not_not] at c_15
      refine r_aload_n (pc := 21) dX11_cancel_21 rfl (by first | rfl | exact isRefV_rf _) ?_
      refine rm_getf (pc := 22) dX11_cancel_22 fX11_11 (by assumption) rfl ?_
      refine r_iload_n (pc := 25) dX11_cancel_25 rfl ?_
      refine rj_bipush (pc := 26) dX11_cancel_26 (by decide +kernel) ?_
      refine rj_iconst (pc := 28) dX11_cancel_28 ?_
      refine r_callS3 (pc := 29) dX11_cancel_29 qX11_ofTask kX11_58 sX11_ofTask (Nat.le_of_ble_eq_true rfl) (m_ofTask (d + 2)) (fun v_29 h_29 q_29 => ?_)
      obtain ⟨rfl, rfl⟩ := q_29
      refine rj_iald (pc := 32) (j := (1614 + 72 * t).toNat) dX11_cancel_32 (by first | exact isM.g0 (by assumption) | exact isM.g3 (by assumption) | exact isM.g4 (by assumption) | exact isM.g8 (by assumption) | exact isM.g7 (by assumption) | exact isM.g6 (by assumption) | exact isM.g5 (by assumption) | exact isM.g1 (by assumption) | exact isM.g2 (by assumption)) (by first | assumption | exact b01_r | exact bz_r | omega | (constructor <;> omega) | exact hM _ | exact hPo _ | exact hTa _ | exact hRo _) (by first | assumption | exact b01_r | exact bz_r | omega | (constructor <;> omega) | exact hM _ | exact hPo _ | exact hTa _ | exact hRo _) (by first | assumption | exact b01_r | exact bz_r | omega | (constructor <;> omega) | exact hM _ | exact hPo _ | exact hTa _ | exact hRo _) (by omega) ?_
      refine r_istore_n (pc := 33) dX11_cancel_33 (Nat.le_of_ble_eq_true rfl) ?_
      dsimp only [lsSt, List.set, mLs, mEnt]
      refine r_aload_n (pc := 34) dX11_cancel_34 rfl (by first | rfl | exact isRefV_rf _) ?_
      refine rm_getf (pc := 35) dX11_cancel_35 fX11_11 (by assumption) rfl ?_
      refine r_iload_n (pc := 38) dX11_cancel_38 rfl ?_
      refine rj_bipush (pc := 39) dX11_cancel_39 (by decide +kernel) ?_
      refine rj_iconst (pc := 41) dX11_cancel_41 ?_
      refine r_callS3 (pc := 42) dX11_cancel_42 qX11_ofTask kX11_58 sX11_ofTask (Nat.le_of_ble_eq_true rfl) (m_ofTask (d + 2)) (fun v_42 h_42 q_42 => ?_)
      obtain ⟨rfl, rfl⟩ := q_42
      refine rj_iconst (pc := 45) dX11_cancel_45 ?_
      first | refine rm_iast0 (pc := 46) (j := (1614 + 72 * t).toNat) dX11_cancel_46 (by assumption) (by first | assumption | exact b01_r | exact bz_r | omega | (constructor <;> omega) | exact hM _ | exact hPo _ | exact hTa _ | exact hRo _) (by first | assumption | exact b01_r | exact bz_r | omega | (constructor <;> omega) | exact hM _ | exact hPo _ | exact hTa _ | exact hRo _) (by first | assumption | exact b01_r | exact bz_r | omega | (constructor <;> omega) | exact hM _ | exact hPo _ | exact hTa _ | exact hRo _) (by omega) (fun h_46 hB_46 hS_46 => ?_)
      refine rj_iconst (pc := 47) dX11_cancel_47 ?_
      refine r_iload_n (pc := 48) dX11_cancel_48 rfl ?_
      refine rj_isub (pc := 49) dX11_cancel_49 ?_
      refine r_ireturn (pc := 50) .int dX11_cancel_50 rfl (by first | rfl | assumption) ?_
      exact ⟨by unfold cancelV; rw [if_pos c_5, if_pos c_15], Or.inr ⟨⟨c_5, c_15⟩, hB_46, hS_46⟩⟩
    · try simp only [b01_0, bz_0, Classical.not_not] at c_15
      refine rj_bipush (pc := 18) dX11_cancel_18 (by decide +kernel) ?_
      refine r_ireturn (pc := 20) .int dX11_cancel_20 rfl (by first | rfl | assumption) ?_
      exact ⟨by unfold cancelV; rw [if_pos c_5, if_neg c_15], Or.inl ⟨fun g => c_15 g.2, rfl⟩⟩
  · try simp only [b01_0, bz_0, Classical.not_not] at c_5
    refine rj_iconst (pc := 8) dX11_cancel_8 ?_
    refine r_ireturn (pc := 9) .int dX11_cancel_9 rfl (by first | rfl | assumption) ?_
    exact ⟨by unfold cancelV; rw [if_neg c_5], Or.inl ⟨fun g => c_5 g.1, rfl⟩⟩
def rankV (m : Nat → Int) (t p : Int) : Int := if 0 ≤ t ∧ t ≤ m 3 - 1 then (if -99 ≤ p ∧ p ≤ 99 then (if m (1610 + 72 * t).toNat = 0 then m (1609 + 72 * t).toNat + 100 else -3) else -2) else -1
def rankDo (m : Nat → Int) (t p : Int) : Prop := canDo m t ∧ (-99 ≤ p ∧ p ≤ 99)
set_option maxHeartbeats 4000000 in
set_option maxRecDepth 100000 in
theorem m_rank {G : mG} {l : Launch} (d : Nat) {h : mH} {x s : Nat} {f4 f6 f8 f9 f10 f11 f12 f13 f14 f16 f18 : Int} {m kp was pool tape pln pap rwd rw : Nat → Int}(hB : isM h x (mFs x f4 f6 f8 f9 f10 f11 f12 f13 f14 f16 f18 s) m kp was pool tape pln pap rwd rw) (hM : ∀ q, InR (m q)) (h3 : 0 ≤ m 3 ∧ m 3 ≤ 10) {t p : Int} (ht : InR t) (hp : InR p) : RUNM G l (d + 3) mX11_rank [.ref x, .int (J t), .int (J p)] h (fun v h' => v = some (.int (J (rankV m t p))) ∧ ((¬ rankDo m t p ∧ h' = h) ∨ (rankDo m t p ∧ isM h' x (mFs x f4 f6 f8 f9 f10 f11 f12 f13 f14 f16 f18 s) (updI m (1609 + 72 * t).toNat p) kp was pool tape pln pap rwd rw ∧ Same (mBlk x) h h'))) := by
  have hB0 := hB
  dsimp only [mFs] at hB
  refine RUNM.of (by decide +kernel) (Nat.le_of_ble_eq_true rfl) ?_
  refine r_aload_n (pc := 0) dX11_rank_0 rfl (by first | rfl | exact isRefV_rf _) ?_
  refine r_iload_n (pc := 1) dX11_rank_1 rfl ?_
  refine r_callV1 (pc := 2) dX11_rank_2 qX11_isTask kX11_180 vX11_isTask (by exact isM.gx (by assumption)) rfl rfl (Nat.le_of_ble_eq_true rfl) (m_isTask (d + 1) hB0 ht ⟨by omega, by omega⟩) (fun v_2 h_2 q_2 => ?_)
  obtain ⟨rfl, rfl⟩ := q_2
  refine rj_if_ne (pc := 5) (tgt := 10) dX11_rank_5 (by decide) (by first | assumption | exact b01_r | exact bz_r | omega | (constructor <;> omega) | exact hM _ | exact hPo _ | exact hTa _ | exact hRo _) (fun c_5 => ?_) (fun c_5 => ?_)
  · try simp only [b01_0, bz_0, Classical.not_not] at c_5
    refine r_iload_n (pc := 10) dX11_rank_10 rfl ?_
    refine rj_bipush (pc := 11) dX11_rank_11 (by decide +kernel) ?_
    refine rj_bipush (pc := 13) dX11_rank_13 (by decide +kernel) ?_
    refine r_callS3 (pc := 15) dX11_rank_15 qX11_isIn kX11_46 sX11_isIn (Nat.le_of_ble_eq_true rfl) (m_isIn (d + 2) hp (by decide) (by decide)) (fun v_15 h_15 q_15 => ?_)
    obtain ⟨rfl, rfl⟩ := q_15
    refine rj_if_ne (pc := 18) (tgt := 24) dX11_rank_18 (by decide) (by first | assumption | exact b01_r | exact bz_r | omega | (constructor <;> omega) | exact hM _ | exact hPo _ | exact hTa _ | exact hRo _) (fun c_18 => ?_) (fun c_18 => ?_)
    · try simp only [b01_0, bz_0, Classical.not_not] at c_18
      refine r_aload_n (pc := 24) dX11_rank_24 rfl (by first | rfl | exact isRefV_rf _) ?_
      refine r_iload_n (pc := 25) dX11_rank_25 rfl ?_
      refine r_callV1 (pc := 26) dX11_rank_26 qX11_isReady kX11_183 vX11_isReady (by exact isM.gx (by assumption)) rfl rfl (Nat.le_of_ble_eq_true rfl) (m_isReady (d + 1) hB0 hM (by omega) (by omega)) (fun v_26 h_26 q_26 => ?_)
      obtain ⟨rfl, rfl⟩ := q_26
      refine rj_if_ne (pc := 29) (tgt := 35) dX11_rank_29 (by decide) (by first | assumption | exact b01_r | exact bz_r | omega | (constructor <;> omega) | exact hM _ | exact hPo _ | exact hTa _ | exact hRo _) (fun c_29 => ?_) (fun c_29 => ?_)
      · try simp only [b01_0, bz_0, Classical.not_not] at c_29
        refine r_aload_n (pc := 35) dX11_rank_35 rfl (by first | rfl | exact isRefV_rf _) ?_
        refine rm_getf (pc := 36) dX11_rank_36 fX11_11 (by assumption) rfl ?_
        refine r_iload_n (pc := 39) dX11_rank_39 rfl ?_
        refine rj_iconst (pc := 40) dX11_rank_40 ?_
        refine rj_iconst (pc := 41) dX11_rank_41 ?_
        refine r_callS3 (pc := 42) dX11_rank_42 qX11_ofTask kX11_58 sX11_ofTask (Nat.le_of_ble_eq_true rfl) (m_ofTask (d + 2)) (fun v_42 h_42 q_42 => ?_)
        obtain ⟨rfl, rfl⟩ := q_42
        refine rj_iald (pc := 45) (j := (1609 + 72 * t).toNat) dX11_rank_45 (by first | exact isM.g0 (by assumption) | exact isM.g3 (by assumption) | exact isM.g4 (by assumption) | exact isM.g8 (by assumption) | exact isM.g7 (by assumption) | exact isM.g6 (by assumption) | exact isM.g5 (by assumption) | exact isM.g1 (by assumption) | exact isM.g2 (by assumption)) (by first | assumption | exact b01_r | exact bz_r | omega | (constructor <;> omega) | exact hM _ | exact hPo _ | exact hTa _ | exact hRo _) (by first | assumption | exact b01_r | exact bz_r | omega | (constructor <;> omega) | exact hM _ | exact hPo _ | exact hTa _ | exact hRo _) (by first | assumption | exact b01_r | exact bz_r | omega | (constructor <;> omega) | exact hM _ | exact hPo _ | exact hTa _ | exact hRo _) (by omega) ?_
        refine r_istore_n (pc := 46) dX11_rank_46 (Nat.le_of_ble_eq_true rfl) ?_
        dsimp only [lsSt, List.set, mLs, mEnt]
        refine r_aload_n (pc := 47) dX11_rank_47 rfl (by first | rfl | exact isRefV_rf _) ?_
        refine rm_getf (pc := 48) dX11_rank_48 fX11_11 (by assumption) rfl ?_
        refine r_iload_n (pc := 51) dX11_rank_51 rfl ?_
        refine rj_iconst (pc := 52) dX11_rank_52 ?_
        refine rj_iconst (pc := 53) dX11_rank_53 ?_
        refine r_callS3 (pc := 54) dX11_rank_54 qX11_ofTask kX11_58 sX11_ofTask (Nat.le_of_ble_eq_true rfl) (m_ofTask (d + 2)) (fun v_54 h_54 q_54 => ?_)
        obtain ⟨rfl, rfl⟩ := q_54
        refine r_iload_n (pc := 57) dX11_rank_57 rfl ?_
        first | refine rm_iast0 (pc := 58) (j := (1609 + 72 * t).toNat) dX11_rank_58 (by assumption) (by first | assumption | exact b01_r | exact bz_r | omega | (constructor <;> omega) | exact hM _ | exact hPo _ | exact hTa _ | exact hRo _) (by first | assumption | exact b01_r | exact bz_r | omega | (constructor <;> omega) | exact hM _ | exact hPo _ | exact hTa _ | exact hRo _) (by first | assumption | exact b01_r | exact bz_r | omega | (constructor <;> omega) | exact hM _ | exact hPo _ | exact hTa _ | exact hRo _) (by omega) (fun h_58 hB_58 hS_58 => ?_)
        refine r_iload_n (pc := 59) dX11_rank_59 rfl ?_
        refine rj_bipush (pc := 60) dX11_rank_60 (by decide +kernel) ?_
        refine rj_iadd (pc := 62) dX11_rank_62 ?_
        refine r_ireturn (pc := 63) .int dX11_rank_63 rfl (by first | rfl | assumption) ?_
        exact ⟨by unfold rankV; rw [if_pos c_5, if_pos c_18, if_pos c_29], Or.inr ⟨⟨⟨c_5, c_29⟩, c_18⟩, hB_58, hS_58⟩⟩
      · try simp only [b01_0, bz_0, Classical.not_not] at c_29
        refine rj_bipush (pc := 32) dX11_rank_32 (by decide +kernel) ?_
        refine r_ireturn (pc := 34) .int dX11_rank_34 rfl (by first | rfl | assumption) ?_
        exact ⟨by unfold rankV; rw [if_pos c_5, if_pos c_18, if_neg c_29], Or.inl ⟨fun g => c_29 g.1.2, rfl⟩⟩
    · try simp only [b01_0, bz_0, Classical.not_not] at c_18
      refine rj_bipush (pc := 21) dX11_rank_21 (by decide +kernel) ?_
      refine r_ireturn (pc := 23) .int dX11_rank_23 rfl (by first | rfl | assumption) ?_
      exact ⟨by unfold rankV; rw [if_pos c_5, if_neg c_18], Or.inl ⟨fun g => c_18 g.2, rfl⟩⟩
  · try simp only [b01_0, bz_0, Classical.not_not] at c_5
    refine rj_iconst (pc := 8) dX11_rank_8 ?_
    refine r_ireturn (pc := 9) .int dX11_rank_9 rfl (by first | rfl | assumption) ?_
    exact ⟨by unfold rankV; rw [if_neg c_5], Or.inl ⟨fun g => c_5 g.1.1, rfl⟩⟩
