/-! ===== the reference: a step of a task, a turn ===== -/
def doesInR (pool : Nat → Int) (cl : (Nat → Int) → Nat → (Nat → Int) → Prop) (sh : (Nat → Int) → Int → (Nat → Int) → Prop) (m : Nat → Int) (t p : Nat) (f : Int) (m' : Nat → Int) : Prop :=
  mOk m ∧ t ≤ 9 ∧ p < 12342 ∧ ∃ n : Nat, n ≤ 60 ∧ m (1619 + 72 * t) = n ∧
  ((pool p = 40 ∧ ((m 0 = 60 ∧ f = 107 ∧ m' = m) ∨ (¬ m 0 = 60 ∧ ¬ openP m (m (1619 + 72 * t + n)) ∧ f = 101 ∧ m' = m) ∨ (¬ m 0 = 60 ∧ openP m (m (1619 + 72 * t + n)) ∧ f = 0 ∧ m' = updI (updI (opensM m (m 0).toNat (m (1619 + 72 * t + n)) t) (1620 + 72 * t + n) (m 0)) (1619 + 72 * t) (n + 1)))) ∨
   (pool p = 41 ∧ f = 0 ∧ sh (updI m (1619 + 72 * t) (n - 1)) (m (1619 + 72 * t + n)) m') ∨
   (¬ pool p = 40 ∧ ¬ pool p = 41 ∧ doesR pool cl m p (m (1619 + 72 * t + n)) f m'))
set_option maxHeartbeats 4000000 in
set_option maxRecDepth 100000 in
theorem m_doesIn {G : mG} {l : Launch} {D : Nat} (hD : 280 ≤ D) {x s : Nat} {f4 f6 f8 f9 f10 f11 f12 f13 f14 f16 f18 : Int} {kp was pool tape pln pap rwd rw : Nat → Int} (hPo : ∀ q, InR (pool q)) {cl : (Nat → Int) → Nat → (Nat → Int) → Prop} {sh : (Nat → Int) → Int → (Nat → Int) → Prop} (hcl : ∀ (m1 m2 : Nat → Int) (t : Nat) (h : mH), isM h x (mFs x f4 f6 f8 f9 f10 f11 f12 f13 f14 f16 f18 s) m1 kp was pool tape pln pap rwd rw → cl m1 t m2 → RUNM G l D mX11_closes [.ref x, .int (J (t : Int))] h (fun v h' => v = none ∧ isM h' x (mFs x f4 f6 f8 f9 f10 f11 f12 f13 f14 f16 f18 s) m2 kp was pool tape pln pap rwd rw ∧ Same (mBlk x) h h')) (hsh : ∀ (m1 m2 : Nat → Int) (e : Int) (h : mH), isM h x (mFs x f4 f6 f8 f9 f10 f11 f12 f13 f14 f16 f18 s) m1 kp was pool tape pln pap rwd rw → sh m1 e m2 → RUNM G l D mX11_shuts [.ref x, .int (J e)] h (fun v h' => v = none ∧ isM h' x (mFs x f4 f6 f8 f9 f10 f11 f12 f13 f14 f16 f18 s) m2 kp was pool tape pln pap rwd rw ∧ Same (mBlk x) h h')) {m m' : Nat → Int} {t p : Nat} {f : Int} {h : mH} (hB : isM h x (mFs x f4 f6 f8 f9 f10 f11 f12 f13 f14 f16 f18 s) m kp was pool tape pln pap rwd rw) (hR : doesInR pool cl sh m t p f m') : RUNM G l (D + 3) mX11_doesIn [.ref x, .int (J (t : Int)), .int (J (p : Int))] h (fun v h' => v = some (.int (J f)) ∧ isM h' x (mFs x f4 f6 f8 f9 f10 f11 f12 f13 f14 f16 f18 s) m' kp was pool tape pln pap rwd rw ∧ Same (mBlk x) h h') := by
  obtain ⟨hok, ht, hp, n, hn, hc, hR⟩ := hR
  obtain ⟨hM, k0, k1, k2, k3, k4, k5, k7⟩ := id hok
  have hB0 := hB
  have rp := hPo p
  have r0 := hM 0
  have rs := hM (1619 + 72 * t + n)
  have hd : ∀ (f : Int) (m' : Nat → Int), doesR pool cl m p (m (1619 + 72 * t + n)) f m' → RUNM G l (D + 2) mX11_does [.ref x, .int (J (p : Int)), .int (J (m (1619 + 72 * t + n)))] h (fun v h' => v = some (.int (J f)) ∧ isM h' x (mFs x f4 f6 f8 f9 f10 f11 f12 f13 f14 f16 f18 s) m' kp was pool tape pln pap rwd rw ∧ Same (mBlk x) h h') := fun f m' q => m_does (by omega) hPo hcl hB0 q
  dsimp only [mFs] at hB
  refine RUNM.of (by decide +kernel) (Nat.le_of_ble_eq_true rfl) ?_
  rcases hR with ⟨hk, hR⟩ | ⟨hk, rfl, hR⟩ | ⟨hk, hk2, hR⟩
  · rcases hR with ⟨h6, rfl, rfl⟩ | ⟨h6, ho, rfl, rfl⟩ | ⟨h6, ho, rfl, rfl⟩
    · refine r_iload_n (pc := 0) dX11_doesIn_0 rfl ?_
      refine rj_bipush (pc := 1) dX11_doesIn_1 (by decide +kernel) ?_
      refine r_aload_n (pc := 3) dX11_doesIn_3 rfl (by first | rfl | exact isRefV_rf _) ?_
      refine rm_getf (pc := 4) dX11_doesIn_4 fX11_11 (by assumption) rfl ?_
      refine r_iload_n (pc := 7) dX11_doesIn_7 rfl ?_
      refine rj_bipush (pc := 8) dX11_doesIn_8 (by decide +kernel) ?_
      refine rj_iconst (pc := 10) dX11_doesIn_10 ?_
      refine r_callS3 (pc := 11) dX11_doesIn_11 qX11_ofTask kX11_58 sX11_ofTask (Nat.le_of_ble_eq_true rfl) (m_ofTask _) (fun v_11 h_11 q_11 => ?_)
      obtain ⟨rfl, rfl⟩ := q_11
      refine rj_iald (pc := 14) (j := 1619 + 72 * t) dX11_doesIn_14 (by first | exact isM.g0 (by assumption) | exact isM.g3 (by assumption) | exact isM.g4 (by assumption) | exact isM.g8 (by assumption) | exact isM.g7 (by assumption) | exact isM.g6 (by assumption) | exact isM.g5 (by assumption) | exact isM.g1 (by assumption) | exact isM.g2 (by assumption)) (by first | assumption | exact b01_r | exact bz_r | omega | (constructor <;> omega) | exact hM _ | exact hPo _ | exact hTa _ | exact hRo _) (by first | assumption | exact b01_r | exact bz_r | omega | (constructor <;> omega) | exact hM _ | exact hPo _ | exact hTa _ | exact hRo _) (by first | assumption | exact b01_r | exact bz_r | omega | (constructor <;> omega) | exact hM _ | exact hPo _ | exact hTa _ | exact hRo _) (by omega) ?_
      rw [hc]
      refine r_callS3 (pc := 15) dX11_doesIn_15 qX11_ofTask kX11_58 sX11_ofTask (Nat.le_of_ble_eq_true rfl) (m_ofTask _) (fun v_15 h_15 q_15 => ?_)
      obtain ⟨rfl, rfl⟩ := q_15
      rw [show (1608 + 72 * (t : Int) + 11 + (n : Int)) = ((1619 + 72 * t + n : Nat) : Int) by omega]
      refine r_istore_n (pc := 18) dX11_doesIn_18 (Nat.le_of_ble_eq_true rfl) ?_
      dsimp only [lsSt, List.set, mLs, mEnt]
      refine r_aload_n (pc := 19) dX11_doesIn_19 rfl (by first | rfl | exact isRefV_rf _) ?_
      refine rm_getf (pc := 20) dX11_doesIn_20 fX11_11 (by assumption) rfl ?_
      refine r_iload_n (pc := 23) dX11_doesIn_23 rfl ?_
      refine rj_iald (pc := 24) (j := 1619 + 72 * t + n) dX11_doesIn_24 (by first | exact isM.g0 (by assumption) | exact isM.g3 (by assumption) | exact isM.g4 (by assumption) | exact isM.g8 (by assumption) | exact isM.g7 (by assumption) | exact isM.g6 (by assumption) | exact isM.g5 (by assumption) | exact isM.g1 (by assumption) | exact isM.g2 (by assumption)) (by first | assumption | exact b01_r | exact bz_r | omega | (constructor <;> omega) | exact hM _ | exact hPo _ | exact hTa _ | exact hRo _) (by first | assumption | exact b01_r | exact bz_r | omega | (constructor <;> omega) | exact hM _ | exact hPo _ | exact hTa _ | exact hRo _) (by first | assumption | exact b01_r | exact bz_r | omega | (constructor <;> omega) | exact hM _ | exact hPo _ | exact hTa _ | exact hRo _) (by omega) ?_
      refine r_istore (pc := 25) dX11_doesIn_25 (Nat.le_of_ble_eq_true rfl) ?_
      dsimp only [lsSt, List.set, mLs, mEnt]
      refine r_aload_n (pc := 27) dX11_doesIn_27 rfl (by first | rfl | exact isRefV_rf _) ?_
      refine rm_getf (pc := 28) dX11_doesIn_28 fX11_21 (by assumption) rfl ?_
      refine r_iload_n (pc := 31) dX11_doesIn_31 rfl ?_
      refine rj_iald (pc := 32) (j := p) dX11_doesIn_32 (by first | exact isM.g0 (by assumption) | exact isM.g3 (by assumption) | exact isM.g4 (by assumption) | exact isM.g8 (by assumption) | exact isM.g7 (by assumption) | exact isM.g6 (by assumption) | exact isM.g5 (by assumption) | exact isM.g1 (by assumption) | exact isM.g2 (by assumption)) (by first | assumption | exact b01_r | exact bz_r | omega | (constructor <;> omega) | exact hM _ | exact hPo _ | exact hTa _ | exact hRo _) (by first | assumption | exact b01_r | exact bz_r | omega | (constructor <;> omega) | exact hM _ | exact hPo _ | exact hTa _ | exact hRo _) (by first | assumption | exact b01_r | exact bz_r | omega | (constructor <;> omega) | exact hM _ | exact hPo _ | exact hTa _ | exact hRo _) (by omega) ?_
      refine rj_bipush (pc := 33) dX11_doesIn_33 (by decide +kernel) ?_
      refine rj_icmp_ne (pc := 35) (tgt := 97) dX11_doesIn_35 (by decide) (by first | assumption | exact b01_r | exact bz_r | omega | (constructor <;> omega) | exact hM _ | exact hPo _ | exact hTa _ | exact hRo _) (by first | assumption | exact b01_r | exact bz_r | omega | (constructor <;> omega) | exact hM _ | exact hPo _ | exact hTa _ | exact hRo _) (fun c_35 => ?_) (fun c_35 => ?_)
      · exfalso; omega
      · refine r_aload_n (pc := 38) dX11_doesIn_38 rfl (by first | rfl | exact isRefV_rf _) ?_
        refine rm_getf (pc := 39) dX11_doesIn_39 fX11_11 (by assumption) rfl ?_
        refine rj_iconst (pc := 42) dX11_doesIn_42 ?_
        refine rj_iald (pc := 43) (j := 0) dX11_doesIn_43 (by first | exact isM.g0 (by assumption) | exact isM.g3 (by assumption) | exact isM.g4 (by assumption) | exact isM.g8 (by assumption) | exact isM.g7 (by assumption) | exact isM.g6 (by assumption) | exact isM.g5 (by assumption) | exact isM.g1 (by assumption) | exact isM.g2 (by assumption)) (by first | assumption | exact b01_r | exact bz_r | omega | (constructor <;> omega) | exact hM _ | exact hPo _ | exact hTa _ | exact hRo _) (by first | assumption | exact b01_r | exact bz_r | omega | (constructor <;> omega) | exact hM _ | exact hPo _ | exact hTa _ | exact hRo _) (by first | assumption | exact b01_r | exact bz_r | omega | (constructor <;> omega) | exact hM _ | exact hPo _ | exact hTa _ | exact hRo _) rfl ?_
        refine rj_bipush (pc := 44) dX11_doesIn_44 (by decide +kernel) ?_
        refine rj_icmp_ne (pc := 46) (tgt := 52) dX11_doesIn_46 (by decide) (by first | assumption | exact b01_r | exact bz_r | omega | (constructor <;> omega) | exact hM _ | exact hPo _ | exact hTa _ | exact hRo _) (by first | assumption | exact b01_r | exact bz_r | omega | (constructor <;> omega) | exact hM _ | exact hPo _ | exact hTa _ | exact hRo _) (fun c_46 => ?_) (fun c_46 => ?_)
        · exact absurd h6 c_46
        · refine rj_bipush (pc := 49) dX11_doesIn_49 (by decide +kernel) ?_
          refine r_ireturn (pc := 51) .int dX11_doesIn_51 rfl (by first | rfl | assumption) ?_
          exact ⟨rfl, hB0, Same.refl⟩
    · refine r_iload_n (pc := 0) dX11_doesIn_0 rfl ?_
      refine rj_bipush (pc := 1) dX11_doesIn_1 (by decide +kernel) ?_
      refine r_aload_n (pc := 3) dX11_doesIn_3 rfl (by first | rfl | exact isRefV_rf _) ?_
      refine rm_getf (pc := 4) dX11_doesIn_4 fX11_11 (by assumption) rfl ?_
      refine r_iload_n (pc := 7) dX11_doesIn_7 rfl ?_
      refine rj_bipush (pc := 8) dX11_doesIn_8 (by decide +kernel) ?_
      refine rj_iconst (pc := 10) dX11_doesIn_10 ?_
      refine r_callS3 (pc := 11) dX11_doesIn_11 qX11_ofTask kX11_58 sX11_ofTask (Nat.le_of_ble_eq_true rfl) (m_ofTask _) (fun v_11 h_11 q_11 => ?_)
      obtain ⟨rfl, rfl⟩ := q_11
      refine rj_iald (pc := 14) (j := 1619 + 72 * t) dX11_doesIn_14 (by first | exact isM.g0 (by assumption) | exact isM.g3 (by assumption) | exact isM.g4 (by assumption) | exact isM.g8 (by assumption) | exact isM.g7 (by assumption) | exact isM.g6 (by assumption) | exact isM.g5 (by assumption) | exact isM.g1 (by assumption) | exact isM.g2 (by assumption)) (by first | assumption | exact b01_r | exact bz_r | omega | (constructor <;> omega) | exact hM _ | exact hPo _ | exact hTa _ | exact hRo _) (by first | assumption | exact b01_r | exact bz_r | omega | (constructor <;> omega) | exact hM _ | exact hPo _ | exact hTa _ | exact hRo _) (by first | assumption | exact b01_r | exact bz_r | omega | (constructor <;> omega) | exact hM _ | exact hPo _ | exact hTa _ | exact hRo _) (by omega) ?_
      rw [hc]
      refine r_callS3 (pc := 15) dX11_doesIn_15 qX11_ofTask kX11_58 sX11_ofTask (Nat.le_of_ble_eq_true rfl) (m_ofTask _) (fun v_15 h_15 q_15 => ?_)
      obtain ⟨rfl, rfl⟩ := q_15
      rw [show (1608 + 72 * (t : Int) + 11 + (n : Int)) = ((1619 + 72 * t + n : Nat) : Int) by omega]
      refine r_istore_n (pc := 18) dX11_doesIn_18 (Nat.le_of_ble_eq_true rfl) ?_
      dsimp only [lsSt, List.set, mLs, mEnt]
      refine r_aload_n (pc := 19) dX11_doesIn_19 rfl (by first | rfl | exact isRefV_rf _) ?_
      refine rm_getf (pc := 20) dX11_doesIn_20 fX11_11 (by assumption) rfl ?_
      refine r_iload_n (pc := 23) dX11_doesIn_23 rfl ?_
      refine rj_iald (pc := 24) (j := 1619 + 72 * t + n) dX11_doesIn_24 (by first | exact isM.g0 (by assumption) | exact isM.g3 (by assumption) | exact isM.g4 (by assumption) | exact isM.g8 (by assumption) | exact isM.g7 (by assumption) | exact isM.g6 (by assumption) | exact isM.g5 (by assumption) | exact isM.g1 (by assumption) | exact isM.g2 (by assumption)) (by first | assumption | exact b01_r | exact bz_r | omega | (constructor <;> omega) | exact hM _ | exact hPo _ | exact hTa _ | exact hRo _) (by first | assumption | exact b01_r | exact bz_r | omega | (constructor <;> omega) | exact hM _ | exact hPo _ | exact hTa _ | exact hRo _) (by first | assumption | exact b01_r | exact bz_r | omega | (constructor <;> omega) | exact hM _ | exact hPo _ | exact hTa _ | exact hRo _) (by omega) ?_
      refine r_istore (pc := 25) dX11_doesIn_25 (Nat.le_of_ble_eq_true rfl) ?_
      dsimp only [lsSt, List.set, mLs, mEnt]
      refine r_aload_n (pc := 27) dX11_doesIn_27 rfl (by first | rfl | exact isRefV_rf _) ?_
      refine rm_getf (pc := 28) dX11_doesIn_28 fX11_21 (by assumption) rfl ?_
      refine r_iload_n (pc := 31) dX11_doesIn_31 rfl ?_
      refine rj_iald (pc := 32) (j := p) dX11_doesIn_32 (by first | exact isM.g0 (by assumption) | exact isM.g3 (by assumption) | exact isM.g4 (by assumption) | exact isM.g8 (by assumption) | exact isM.g7 (by assumption) | exact isM.g6 (by assumption) | exact isM.g5 (by assumption) | exact isM.g1 (by assumption) | exact isM.g2 (by assumption)) (by first | assumption | exact b01_r | exact bz_r | omega | (constructor <;> omega) | exact hM _ | exact hPo _ | exact hTa _ | exact hRo _) (by first | assumption | exact b01_r | exact bz_r | omega | (constructor <;> omega) | exact hM _ | exact hPo _ | exact hTa _ | exact hRo _) (by first | assumption | exact b01_r | exact bz_r | omega | (constructor <;> omega) | exact hM _ | exact hPo _ | exact hTa _ | exact hRo _) (by omega) ?_
      refine rj_bipush (pc := 33) dX11_doesIn_33 (by decide +kernel) ?_
      refine rj_icmp_ne (pc := 35) (tgt := 97) dX11_doesIn_35 (by decide) (by first | assumption | exact b01_r | exact bz_r | omega | (constructor <;> omega) | exact hM _ | exact hPo _ | exact hTa _ | exact hRo _) (by first | assumption | exact b01_r | exact bz_r | omega | (constructor <;> omega) | exact hM _ | exact hPo _ | exact hTa _ | exact hRo _) (fun c_35 => ?_) (fun c_35 => ?_)
      · exfalso; omega
      · refine r_aload_n (pc := 38) dX11_doesIn_38 rfl (by first | rfl | exact isRefV_rf _) ?_
        refine rm_getf (pc := 39) dX11_doesIn_39 fX11_11 (by assumption) rfl ?_
        refine rj_iconst (pc := 42) dX11_doesIn_42 ?_
        refine rj_iald (pc := 43) (j := 0) dX11_doesIn_43 (by first | exact isM.g0 (by assumption) | exact isM.g3 (by assumption) | exact isM.g4 (by assumption) | exact isM.g8 (by assumption) | exact isM.g7 (by assumption) | exact isM.g6 (by assumption) | exact isM.g5 (by assumption) | exact isM.g1 (by assumption) | exact isM.g2 (by assumption)) (by first | assumption | exact b01_r | exact bz_r | omega | (constructor <;> omega) | exact hM _ | exact hPo _ | exact hTa _ | exact hRo _) (by first | assumption | exact b01_r | exact bz_r | omega | (constructor <;> omega) | exact hM _ | exact hPo _ | exact hTa _ | exact hRo _) (by first | assumption | exact b01_r | exact bz_r | omega | (constructor <;> omega) | exact hM _ | exact hPo _ | exact hTa _ | exact hRo _) rfl ?_
        refine rj_bipush (pc := 44) dX11_doesIn_44 (by decide +kernel) ?_
        refine rj_icmp_ne (pc := 46) (tgt := 52) dX11_doesIn_46 (by decide) (by first | assumption | exact b01_r | exact bz_r | omega | (constructor <;> omega) | exact hM _ | exact hPo _ | exact hTa _ | exact hRo _) (by first | assumption | exact b01_r | exact bz_r | omega | (constructor <;> omega) | exact hM _ | exact hPo _ | exact hTa _ | exact hRo _) (fun c_46 => ?_) (fun c_46 => ?_)
        · refine r_aload_n (pc := 52) dX11_doesIn_52 rfl (by first | rfl | exact isRefV_rf _) ?_
          refine r_iload (pc := 53) dX11_doesIn_53 rfl ?_
          refine r_callV1 (pc := 55) dX11_doesIn_55 qX11_isOpen kX11_146 vX11_isOpen (by exact isM.gx (by assumption)) rfl rfl (Nat.le_of_ble_eq_true rfl) (m_isOpen _ hB0 hM k0 rs) (fun v_55 h_55 q_55 => ?_)
          obtain ⟨rfl, rfl⟩ := q_55
          refine rj_if_ne (pc := 58) (tgt := 64) dX11_doesIn_58 (by decide) (by first | assumption | exact b01_r | exact bz_r | omega | (constructor <;> omega) | exact hM _ | exact hPo _ | exact hTa _ | exact hRo _) (fun c_58 => ?_) (fun c_58 => ?_)
          · try simp only [b01_0, bz_0, Classical.not_not] at c_58
            exact absurd c_58 ho
          · try simp only [b01_0, bz_0, Classical.not_not] at c_58
            refine rj_bipush (pc := 61) dX11_doesIn_61 (by decide +kernel) ?_
            refine r_ireturn (pc := 63) .int dX11_doesIn_63 rfl (by first | rfl | assumption) ?_
            exact ⟨rfl, hB0, Same.refl⟩
        · exact absurd c_46 h6
    · have eo : (opensM m (m 0).toNat (m (1619 + 72 * t + n)) t) (1619 + 72 * t) = n := by unfold opensM; rw [updI_n (by omega), updI_n (by omega), updI_n (by omega), updI_n (by omega), updI_n (by omega), updI_n (by omega)]; exact hc
      refine r_iload_n (pc := 0) dX11_doesIn_0 rfl ?_
      refine rj_bipush (pc := 1) dX11_doesIn_1 (by decide +kernel) ?_
      refine r_aload_n (pc := 3) dX11_doesIn_3 rfl (by first | rfl | exact isRefV_rf _) ?_
      refine rm_getf (pc := 4) dX11_doesIn_4 fX11_11 (by assumption) rfl ?_
      refine r_iload_n (pc := 7) dX11_doesIn_7 rfl ?_
      refine rj_bipush (pc := 8) dX11_doesIn_8 (by decide +kernel) ?_
      refine rj_iconst (pc := 10) dX11_doesIn_10 ?_
      refine r_callS3 (pc := 11) dX11_doesIn_11 qX11_ofTask kX11_58 sX11_ofTask (Nat.le_of_ble_eq_true rfl) (m_ofTask _) (fun v_11 h_11 q_11 => ?_)
      obtain ⟨rfl, rfl⟩ := q_11
      refine rj_iald (pc := 14) (j := 1619 + 72 * t) dX11_doesIn_14 (by first | exact isM.g0 (by assumption) | exact isM.g3 (by assumption) | exact isM.g4 (by assumption) | exact isM.g8 (by assumption) | exact isM.g7 (by assumption) | exact isM.g6 (by assumption) | exact isM.g5 (by assumption) | exact isM.g1 (by assumption) | exact isM.g2 (by assumption)) (by first | assumption | exact b01_r | exact bz_r | omega | (constructor <;> omega) | exact hM _ | exact hPo _ | exact hTa _ | exact hRo _) (by first | assumption | exact b01_r | exact bz_r | omega | (constructor <;> omega) | exact hM _ | exact hPo _ | exact hTa _ | exact hRo _) (by first | assumption | exact b01_r | exact bz_r | omega | (constructor <;> omega) | exact hM _ | exact hPo _ | exact hTa _ | exact hRo _) (by omega) ?_
      rw [hc]
      refine r_callS3 (pc := 15) dX11_doesIn_15 qX11_ofTask kX11_58 sX11_ofTask (Nat.le_of_ble_eq_true rfl) (m_ofTask _) (fun v_15 h_15 q_15 => ?_)
      obtain ⟨rfl, rfl⟩ := q_15
      rw [show (1608 + 72 * (t : Int) + 11 + (n : Int)) = ((1619 + 72 * t + n : Nat) : Int) by omega]
      refine r_istore_n (pc := 18) dX11_doesIn_18 (Nat.le_of_ble_eq_true rfl) ?_
      dsimp only [lsSt, List.set, mLs, mEnt]
      refine r_aload_n (pc := 19) dX11_doesIn_19 rfl (by first | rfl | exact isRefV_rf _) ?_
      refine rm_getf (pc := 20) dX11_doesIn_20 fX11_11 (by assumption) rfl ?_
      refine r_iload_n (pc := 23) dX11_doesIn_23 rfl ?_
      refine rj_iald (pc := 24) (j := 1619 + 72 * t + n) dX11_doesIn_24 (by first | exact isM.g0 (by assumption) | exact isM.g3 (by assumption) | exact isM.g4 (by assumption) | exact isM.g8 (by assumption) | exact isM.g7 (by assumption) | exact isM.g6 (by assumption) | exact isM.g5 (by assumption) | exact isM.g1 (by assumption) | exact isM.g2 (by assumption)) (by first | assumption | exact b01_r | exact bz_r | omega | (constructor <;> omega) | exact hM _ | exact hPo _ | exact hTa _ | exact hRo _) (by first | assumption | exact b01_r | exact bz_r | omega | (constructor <;> omega) | exact hM _ | exact hPo _ | exact hTa _ | exact hRo _) (by first | assumption | exact b01_r | exact bz_r | omega | (constructor <;> omega) | exact hM _ | exact hPo _ | exact hTa _ | exact hRo _) (by omega) ?_
      refine r_istore (pc := 25) dX11_doesIn_25 (Nat.le_of_ble_eq_true rfl) ?_
      dsimp only [lsSt, List.set, mLs, mEnt]
      refine r_aload_n (pc := 27) dX11_doesIn_27 rfl (by first | rfl | exact isRefV_rf _) ?_
      refine rm_getf (pc := 28) dX11_doesIn_28 fX11_21 (by assumption) rfl ?_
      refine r_iload_n (pc := 31) dX11_doesIn_31 rfl ?_
      refine rj_iald (pc := 32) (j := p) dX11_doesIn_32 (by first | exact isM.g0 (by assumption) | exact isM.g3 (by assumption) | exact isM.g4 (by assumption) | exact isM.g8 (by assumption) | exact isM.g7 (by assumption) | exact isM.g6 (by assumption) | exact isM.g5 (by assumption) | exact isM.g1 (by assumption) | exact isM.g2 (by assumption)) (by first | assumption | exact b01_r | exact bz_r | omega | (constructor <;> omega) | exact hM _ | exact hPo _ | exact hTa _ | exact hRo _) (by first | assumption | exact b01_r | exact bz_r | omega | (constructor <;> omega) | exact hM _ | exact hPo _ | exact hTa _ | exact hRo _) (by first | assumption | exact b01_r | exact bz_r | omega | (constructor <;> omega) | exact hM _ | exact hPo _ | exact hTa _ | exact hRo _) (by omega) ?_
      refine rj_bipush (pc := 33) dX11_doesIn_33 (by decide +kernel) ?_
      refine rj_icmp_ne (pc := 35) (tgt := 97) dX11_doesIn_35 (by decide) (by first | assumption | exact b01_r | exact bz_r | omega | (constructor <;> omega) | exact hM _ | exact hPo _ | exact hTa _ | exact hRo _) (by first | assumption | exact b01_r | exact bz_r | omega | (constructor <;> omega) | exact hM _ | exact hPo _ | exact hTa _ | exact hRo _) (fun c_35 => ?_) (fun c_35 => ?_)
      · exfalso; omega
      · refine r_aload_n (pc := 38) dX11_doesIn_38 rfl (by first | rfl | exact isRefV_rf _) ?_
        refine rm_getf (pc := 39) dX11_doesIn_39 fX11_11 (by assumption) rfl ?_
        refine rj_iconst (pc := 42) dX11_doesIn_42 ?_
        refine rj_iald (pc := 43) (j := 0) dX11_doesIn_43 (by first | exact isM.g0 (by assumption) | exact isM.g3 (by assumption) | exact isM.g4 (by assumption) | exact isM.g8 (by assumption) | exact isM.g7 (by assumption) | exact isM.g6 (by assumption) | exact isM.g5 (by assumption) | exact isM.g1 (by assumption) | exact isM.g2 (by assumption)) (by first | assumption | exact b01_r | exact bz_r | omega | (constructor <;> omega) | exact hM _ | exact hPo _ | exact hTa _ | exact hRo _) (by first | assumption | exact b01_r | exact bz_r | omega | (constructor <;> omega) | exact hM _ | exact hPo _ | exact hTa _ | exact hRo _) (by first | assumption | exact b01_r | exact bz_r | omega | (constructor <;> omega) | exact hM _ | exact hPo _ | exact hTa _ | exact hRo _) rfl ?_
        refine rj_bipush (pc := 44) dX11_doesIn_44 (by decide +kernel) ?_
        refine rj_icmp_ne (pc := 46) (tgt := 52) dX11_doesIn_46 (by decide) (by first | assumption | exact b01_r | exact bz_r | omega | (constructor <;> omega) | exact hM _ | exact hPo _ | exact hTa _ | exact hRo _) (by first | assumption | exact b01_r | exact bz_r | omega | (constructor <;> omega) | exact hM _ | exact hPo _ | exact hTa _ | exact hRo _) (fun c_46 => ?_) (fun c_46 => ?_)
        · refine r_aload_n (pc := 52) dX11_doesIn_52 rfl (by first | rfl | exact isRefV_rf _) ?_
          refine r_iload (pc := 53) dX11_doesIn_53 rfl ?_
          refine r_callV1 (pc := 55) dX11_doesIn_55 qX11_isOpen kX11_146 vX11_isOpen (by exact isM.gx (by assumption)) rfl rfl (Nat.le_of_ble_eq_true rfl) (m_isOpen _ hB0 hM k0 rs) (fun v_55 h_55 q_55 => ?_)
          obtain ⟨rfl, rfl⟩ := q_55
          refine rj_if_ne (pc := 58) (tgt := 64) dX11_doesIn_58 (by decide) (by first | assumption | exact b01_r | exact bz_r | omega | (constructor <;> omega) | exact hM _ | exact hPo _ | exact hTa _ | exact hRo _) (fun c_58 => ?_) (fun c_58 => ?_)
          · try simp only [b01_0, bz_0, Classical.not_not] at c_58
            refine r_aload_n (pc := 64) dX11_doesIn_64 rfl (by first | rfl | exact isRefV_rf _) ?_
            refine rm_getf (pc := 65) dX11_doesIn_65 fX11_11 (by assumption) rfl ?_
            refine r_iload_n (pc := 68) dX11_doesIn_68 rfl ?_
            refine rj_iconst (pc := 69) dX11_doesIn_69 ?_
            refine rj_iadd (pc := 70) dX11_doesIn_70 ?_
            refine r_aload_n (pc := 71) dX11_doesIn_71 rfl (by first | rfl | exact isRefV_rf _) ?_
            refine r_iload (pc := 72) dX11_doesIn_72 rfl ?_
            refine r_iload_n (pc := 74) dX11_doesIn_74 rfl ?_
            refine r_callV2 (pc := 75) dX11_doesIn_75 qX11_opens kX11_186 vX11_opens (by exact isM.gx (by assumption)) rfl rfl (Nat.le_of_ble_eq_true rfl) (m_opens _ hB0 (C := (m 0).toNat) (by omega) (by omega)) (fun v_75 h_75 q_75 => ?_)
            obtain ⟨rfl, hB_75, S_75⟩ := q_75
            rw [show (((m 0).toNat : Nat) : Int) = m 0 by omega]
            first | refine rm_iast0 (pc := 78) (j := 1620 + 72 * t + n) dX11_doesIn_78 (by assumption) (by first | assumption | exact b01_r | exact bz_r | omega | (constructor <;> omega) | exact hM _ | exact hPo _ | exact hTa _ | exact hRo _) (by first | assumption | exact b01_r | exact bz_r | omega | (constructor <;> omega) | exact hM _ | exact hPo _ | exact hTa _ | exact hRo _) (by first | assumption | exact b01_r | exact bz_r | omega | (constructor <;> omega) | exact hM _ | exact hPo _ | exact hTa _ | exact hRo _) (by omega) (fun h_78 hB_78 hS_78 => ?_)
            refine r_aload_n (pc := 79) dX11_doesIn_79 rfl (by first | rfl | exact isRefV_rf _) ?_
            refine rm_getf (pc := 80) dX11_doesIn_80 fX11_11 (by assumption) rfl ?_
            refine r_iload_n (pc := 83) dX11_doesIn_83 rfl ?_
            refine rj_bipush (pc := 84) dX11_doesIn_84 (by decide +kernel) ?_
            refine rj_iconst (pc := 86) dX11_doesIn_86 ?_
            refine r_callS3 (pc := 87) dX11_doesIn_87 qX11_ofTask kX11_58 sX11_ofTask (Nat.le_of_ble_eq_true rfl) (m_ofTask _) (fun v_87 h_87 q_87 => ?_)
            obtain ⟨rfl, rfl⟩ := q_87
            refine r_dup2 (pc := 90) dX11_doesIn_90 rfl rfl ?_
            refine rj_iald (pc := 91) (j := 1619 + 72 * t) dX11_doesIn_91 (by first | exact isM.g0 (by assumption) | exact isM.g3 (by assumption) | exact isM.g4 (by assumption) | exact isM.g8 (by assumption) | exact isM.g7 (by assumption) | exact isM.g6 (by assumption) | exact isM.g5 (by assumption) | exact isM.g1 (by assumption) | exact isM.g2 (by assumption)) (by first | assumption | exact b01_r | exact bz_r | omega | (constructor <;> omega) | exact hM _ | exact hPo _ | exact hTa _ | exact hRo _) (by first | assumption | exact b01_r | exact bz_r | omega | (constructor <;> omega) | exact hM _ | exact hPo _ | exact hTa _ | exact hRo _) (by first | assumption | exact b01_r | exact bz_r | omega | (constructor <;> omega) | exact hM _ | exact hPo _ | exact hTa _ | exact hRo _) (by omega) ?_
            rw [show updI (opensM m (m 0).toNat (m (1619 + 72 * t + n)) t) (1620 + 72 * t + n) (m 0) (1619 + 72 * t) = n from (updI_n (by omega)).trans eo]
            refine rj_iconst (pc := 92) dX11_doesIn_92 ?_
            refine rj_iadd (pc := 93) dX11_doesIn_93 ?_
            first | refine rm_iast0 (pc := 94) (j := 1619 + 72 * t) dX11_doesIn_94 (by assumption) (by first | assumption | exact b01_r | exact bz_r | omega | (constructor <;> omega) | exact hM _ | exact hPo _ | exact hTa _ | exact hRo _) (by first | assumption | exact b01_r | exact bz_r | omega | (constructor <;> omega) | exact hM _ | exact hPo _ | exact hTa _ | exact hRo _) (by first | assumption | exact b01_r | exact bz_r | omega | (constructor <;> omega) | exact hM _ | exact hPo _ | exact hTa _ | exact hRo _) (by omega) (fun h_94 hB_94 hS_94 => ?_)
            refine rj_iconst (pc := 95) dX11_doesIn_95 ?_
            refine r_ireturn (pc := 96) .int dX11_doesIn_96 rfl (by first | rfl | assumption) ?_
            exact ⟨rfl, hB_94, (S_75.trans hS_78).trans hS_94⟩
          · try simp only [b01_0, bz_0, Classical.not_not] at c_58
            exact absurd ho c_58
        · exact absurd c_46 h6
  · refine r_iload_n (pc := 0) dX11_doesIn_0 rfl ?_
    refine rj_bipush (pc := 1) dX11_doesIn_1 (by decide +kernel) ?_
    refine r_aload_n (pc := 3) dX11_doesIn_3 rfl (by first | rfl | exact isRefV_rf _) ?_
    refine rm_getf (pc := 4) dX11_doesIn_4 fX11_11 (by assumption) rfl ?_
    refine r_iload_n (pc := 7) dX11_doesIn_7 rfl ?_
    refine rj_bipush (pc := 8) dX11_doesIn_8 (by decide +kernel) ?_
    refine rj_iconst (pc := 10) dX11_doesIn_10 ?_
    refine r_callS3 (pc := 11) dX11_doesIn_11 qX11_ofTask kX11_58 sX11_ofTask (Nat.le_of_ble_eq_true rfl) (m_ofTask _) (fun v_11 h_11 q_11 => ?_)
    obtain ⟨rfl, rfl⟩ := q_11
    refine rj_iald (pc := 14) (j := 1619 + 72 * t) dX11_doesIn_14 (by first | exact isM.g0 (by assumption) | exact isM.g3 (by assumption) | exact isM.g4 (by assumption) | exact isM.g8 (by assumption) | exact isM.g7 (by assumption) | exact isM.g6 (by assumption) | exact isM.g5 (by assumption) | exact isM.g1 (by assumption) | exact isM.g2 (by assumption)) (by first | assumption | exact b01_r | exact bz_r | omega | (constructor <;> omega) | exact hM _ | exact hPo _ | exact hTa _ | exact hRo _) (by first | assumption | exact b01_r | exact bz_r | omega | (constructor <;> omega) | exact hM _ | exact hPo _ | exact hTa _ | exact hRo _) (by first | assumption | exact b01_r | exact bz_r | omega | (constructor <;> omega) | exact hM _ | exact hPo _ | exact hTa _ | exact hRo _) (by omega) ?_
    rw [hc]
    refine r_callS3 (pc := 15) dX11_doesIn_15 qX11_ofTask kX11_58 sX11_ofTask (Nat.le_of_ble_eq_true rfl) (m_ofTask _) (fun v_15 h_15 q_15 => ?_)
    obtain ⟨rfl, rfl⟩ := q_15
    rw [show (1608 + 72 * (t : Int) + 11 + (n : Int)) = ((1619 + 72 * t + n : Nat) : Int) by omega]
    refine r_istore_n (pc := 18) dX11_doesIn_18 (Nat.le_of_ble_eq_true rfl) ?_
    dsimp only [lsSt, List.set, mLs, mEnt]
    refine r_aload_n (pc := 19) dX11_doesIn_19 rfl (by first | rfl | exact isRefV_rf _) ?_
    refine rm_getf (pc := 20) dX11_doesIn_20 fX11_11 (by assumption) rfl ?_
    refine r_iload_n (pc := 23) dX11_doesIn_23 rfl ?_
    refine rj_iald (pc := 24) (j := 1619 + 72 * t + n) dX11_doesIn_24 (by first | exact isM.g0 (by assumption) | exact isM.g3 (by assumption) | exact isM.g4 (by assumption) | exact isM.g8 (by assumption) | exact isM.g7 (by assumption) | exact isM.g6 (by assumption) | exact isM.g5 (by assumption) | exact isM.g1 (by assumption) | exact isM.g2 (by assumption)) (by first | assumption | exact b01_r | exact bz_r | omega | (constructor <;> omega) | exact hM _ | exact hPo _ | exact hTa _ | exact hRo _) (by first | assumption | exact b01_r | exact bz_r | omega | (constructor <;> omega) | exact hM _ | exact hPo _ | exact hTa _ | exact hRo _) (by first | assumption | exact b01_r | exact bz_r | omega | (constructor <;> omega) | exact hM _ | exact hPo _ | exact hTa _ | exact hRo _) (by omega) ?_
    refine r_istore (pc := 25) dX11_doesIn_25 (Nat.le_of_ble_eq_true rfl) ?_
    dsimp only [lsSt, List.set, mLs, mEnt]
    refine r_aload_n (pc := 27) dX11_doesIn_27 rfl (by first | rfl | exact isRefV_rf _) ?_
    refine rm_getf (pc := 28) dX11_doesIn_28 fX11_21 (by assumption) rfl ?_
    refine r_iload_n (pc := 31) dX11_doesIn_31 rfl ?_
    refine rj_iald (pc := 32) (j := p) dX11_doesIn_32 (by first | exact isM.g0 (by assumption) | exact isM.g3 (by assumption) | exact isM.g4 (by assumption) | exact isM.g8 (by assumption) | exact isM.g7 (by assumption) | exact isM.g6 (by assumption) | exact isM.g5 (by assumption) | exact isM.g1 (by assumption) | exact isM.g2 (by assumption)) (by first | assumption | exact b01_r | exact bz_r | omega | (constructor <;> omega) | exact hM _ | exact hPo _ | exact hTa _ | exact hRo _) (by first | assumption | exact b01_r | exact bz_r | omega | (constructor <;> omega) | exact hM _ | exact hPo _ | exact hTa _ | exact hRo _) (by first | assumption | exact b01_r | exact bz_r | omega | (constructor <;> omega) | exact hM _ | exact hPo _ | exact hTa _ | exact hRo _) (by omega) ?_
    refine rj_bipush (pc := 33) dX11_doesIn_33 (by decide +kernel) ?_
    refine rj_icmp_ne (pc := 35) (tgt := 97) dX11_doesIn_35 (by decide) (by first | assumption | exact b01_r | exact bz_r | omega | (constructor <;> omega) | exact hM _ | exact hPo _ | exact hTa _ | exact hRo _) (by first | assumption | exact b01_r | exact bz_r | omega | (constructor <;> omega) | exact hM _ | exact hPo _ | exact hTa _ | exact hRo _) (fun c_35 => ?_) (fun c_35 => ?_)
    · refine r_aload_n (pc := 97) dX11_doesIn_97 rfl (by first | rfl | exact isRefV_rf _) ?_
      refine rm_getf (pc := 98) dX11_doesIn_98 fX11_21 (by assumption) rfl ?_
      refine r_iload_n (pc := 101) dX11_doesIn_101 rfl ?_
      refine rj_iald (pc := 102) (j := p) dX11_doesIn_102 (by first | exact isM.g0 (by assumption) | exact isM.g3 (by assumption) | exact isM.g4 (by assumption) | exact isM.g8 (by assumption) | exact isM.g7 (by assumption) | exact isM.g6 (by assumption) | exact isM.g5 (by assumption) | exact isM.g1 (by assumption) | exact isM.g2 (by assumption)) (by first | assumption | exact b01_r | exact bz_r | omega | (constructor <;> omega) | exact hM _ | exact hPo _ | exact hTa _ | exact hRo _) (by first | assumption | exact b01_r | exact bz_r | omega | (constructor <;> omega) | exact hM _ | exact hPo _ | exact hTa _ | exact hRo _) (by first | assumption | exact b01_r | exact bz_r | omega | (constructor <;> omega) | exact hM _ | exact hPo _ | exact hTa _ | exact hRo _) (by omega) ?_
      refine rj_bipush (pc := 103) dX11_doesIn_103 (by decide +kernel) ?_
      refine rj_icmp_ne (pc := 105) (tgt := 132) dX11_doesIn_105 (by decide) (by first | assumption | exact b01_r | exact bz_r | omega | (constructor <;> omega) | exact hM _ | exact hPo _ | exact hTa _ | exact hRo _) (by first | assumption | exact b01_r | exact bz_r | omega | (constructor <;> omega) | exact hM _ | exact hPo _ | exact hTa _ | exact hRo _) (fun c_105 => ?_) (fun c_105 => ?_)
      · exfalso; omega
      · refine r_aload_n (pc := 108) dX11_doesIn_108 rfl (by first | rfl | exact isRefV_rf _) ?_
        refine rm_getf (pc := 109) dX11_doesIn_109 fX11_11 (by assumption) rfl ?_
        refine r_iload_n (pc := 112) dX11_doesIn_112 rfl ?_
        refine rj_bipush (pc := 113) dX11_doesIn_113 (by decide +kernel) ?_
        refine rj_iconst (pc := 115) dX11_doesIn_115 ?_
        refine r_callS3 (pc := 116) dX11_doesIn_116 qX11_ofTask kX11_58 sX11_ofTask (Nat.le_of_ble_eq_true rfl) (m_ofTask _) (fun v_116 h_116 q_116 => ?_)
        obtain ⟨rfl, rfl⟩ := q_116
        refine r_dup2 (pc := 119) dX11_doesIn_119 rfl rfl ?_
        refine rj_iald (pc := 120) (j := 1619 + 72 * t) dX11_doesIn_120 (by first | exact isM.g0 (by assumption) | exact isM.g3 (by assumption) | exact isM.g4 (by assumption) | exact isM.g8 (by assumption) | exact isM.g7 (by assumption) | exact isM.g6 (by assumption) | exact isM.g5 (by assumption) | exact isM.g1 (by assumption) | exact isM.g2 (by assumption)) (by first | assumption | exact b01_r | exact bz_r | omega | (constructor <;> omega) | exact hM _ | exact hPo _ | exact hTa _ | exact hRo _) (by first | assumption | exact b01_r | exact bz_r | omega | (constructor <;> omega) | exact hM _ | exact hPo _ | exact hTa _ | exact hRo _) (by first | assumption | exact b01_r | exact bz_r | omega | (constructor <;> omega) | exact hM _ | exact hPo _ | exact hTa _ | exact hRo _) (by omega) ?_
        rw [hc]
        refine rj_iconst (pc := 121) dX11_doesIn_121 ?_
        refine rj_isub (pc := 122) dX11_doesIn_122 ?_
        first | refine rm_iast0 (pc := 123) (j := 1619 + 72 * t) dX11_doesIn_123 (by assumption) (by first | assumption | exact b01_r | exact bz_r | omega | (constructor <;> omega) | exact hM _ | exact hPo _ | exact hTa _ | exact hRo _) (by first | assumption | exact b01_r | exact bz_r | omega | (constructor <;> omega) | exact hM _ | exact hPo _ | exact hTa _ | exact hRo _) (by first | assumption | exact b01_r | exact bz_r | omega | (constructor <;> omega) | exact hM _ | exact hPo _ | exact hTa _ | exact hRo _) (by omega) (fun h_123 hB_123 hS_123 => ?_)
        refine r_aload_n (pc := 124) dX11_doesIn_124 rfl (by first | rfl | exact isRefV_rf _) ?_
        refine r_iload (pc := 125) dX11_doesIn_125 rfl ?_
        refine r_callV1 (pc := 127) dX11_doesIn_127 qX11_shuts kX11_157 vX11_shuts (by exact isM.gx (by assumption)) rfl rfl (Nat.le_of_ble_eq_true rfl) ((hsh _ _ _ _ hB_123 hR).deeper (by omega)) (fun v_127 h_127 q_127 => ?_)
        obtain ⟨rfl, hB_127, S_127⟩ := q_127
        refine rj_iconst (pc := 130) dX11_doesIn_130 ?_
        refine r_ireturn (pc := 131) .int dX11_doesIn_131 rfl (by first | rfl | assumption) ?_
        exact ⟨rfl, hB_127, hS_123.trans S_127⟩
    · exfalso; omega
  · refine r_iload_n (pc := 0) dX11_doesIn_0 rfl ?_
    refine rj_bipush (pc := 1) dX11_doesIn_1 (by decide +kernel) ?_
    refine r_aload_n (pc := 3) dX11_doesIn_3 rfl (by first | rfl | exact isRefV_rf _) ?_
    refine rm_getf (pc := 4) dX11_doesIn_4 fX11_11 (by assumption) rfl ?_
    refine r_iload_n (pc := 7) dX11_doesIn_7 rfl ?_
    refine rj_bipush (pc := 8) dX11_doesIn_8 (by decide +kernel) ?_
    refine rj_iconst (pc := 10) dX11_doesIn_10 ?_
    refine r_callS3 (pc := 11) dX11_doesIn_11 qX11_ofTask kX11_58 sX11_ofTask (Nat.le_of_ble_eq_true rfl) (m_ofTask _) (fun v_11 h_11 q_11 => ?_)
    obtain ⟨rfl, rfl⟩ := q_11
    refine rj_iald (pc := 14) (j := 1619 + 72 * t) dX11_doesIn_14 (by first | exact isM.g0 (by assumption) | exact isM.g3 (by assumption) | exact isM.g4 (by assumption) | exact isM.g8 (by assumption) | exact isM.g7 (by assumption) | exact isM.g6 (by assumption) | exact isM.g5 (by assumption) | exact isM.g1 (by assumption) | exact isM.g2 (by assumption)) (by first | assumption | exact b01_r | exact bz_r | omega | (constructor <;> omega) | exact hM _ | exact hPo _ | exact hTa _ | exact hRo _) (by first | assumption | exact b01_r | exact bz_r | omega | (constructor <;> omega) | exact hM _ | exact hPo _ | exact hTa _ | exact hRo _) (by first | assumption | exact b01_r | exact bz_r | omega | (constructor <;> omega) | exact hM _ | exact hPo _ | exact hTa _ | exact hRo _) (by omega) ?_
    rw [hc]
    refine r_callS3 (pc := 15) dX11_doesIn_15 qX11_ofTask kX11_58 sX11_ofTask (Nat.le_of_ble_eq_true rfl) (m_ofTask _) (fun v_15 h_15 q_15 => ?_)
    obtain ⟨rfl, rfl⟩ := q_15
    rw [show (1608 + 72 * (t : Int) + 11 + (n : Int)) = ((1619 + 72 * t + n : Nat) : Int) by omega]
    refine r_istore_n (pc := 18) dX11_doesIn_18 (Nat.le_of_ble_eq_true rfl) ?_
    dsimp only [lsSt, List.set, mLs, mEnt]
    refine r_aload_n (pc := 19) dX11_doesIn_19 rfl (by first | rfl | exact isRefV_rf _) ?_
    refine rm_getf (pc := 20) dX11_doesIn_20 fX11_11 (by assumption) rfl ?_
    refine r_iload_n (pc := 23) dX11_doesIn_23 rfl ?_
    refine rj_iald (pc := 24) (j := 1619 + 72 * t + n) dX11_doesIn_24 (by first | exact isM.g0 (by assumption) | exact isM.g3 (by assumption) | exact isM.g4 (by assumption) | exact isM.g8 (by assumption) | exact isM.g7 (by assumption) | exact isM.g6 (by assumption) | exact isM.g5 (by assumption) | exact isM.g1 (by assumption) | exact isM.g2 (by assumption)) (by first | assumption | exact b01_r | exact bz_r | omega | (constructor <;> omega) | exact hM _ | exact hPo _ | exact hTa _ | exact hRo _) (by first | assumption | exact b01_r | exact bz_r | omega | (constructor <;> omega) | exact hM _ | exact hPo _ | exact hTa _ | exact hRo _) (by first | assumption | exact b01_r | exact bz_r | omega | (constructor <;> omega) | exact hM _ | exact hPo _ | exact hTa _ | exact hRo _) (by omega) ?_
    refine r_istore (pc := 25) dX11_doesIn_25 (Nat.le_of_ble_eq_true rfl) ?_
    dsimp only [lsSt, List.set, mLs, mEnt]
    refine r_aload_n (pc := 27) dX11_doesIn_27 rfl (by first | rfl | exact isRefV_rf _) ?_
    refine rm_getf (pc := 28) dX11_doesIn_28 fX11_21 (by assumption) rfl ?_
    refine r_iload_n (pc := 31) dX11_doesIn_31 rfl ?_
    refine rj_iald (pc := 32) (j := p) dX11_doesIn_32 (by first | exact isM.g0 (by assumption) | exact isM.g3 (by assumption) | exact isM.g4 (by assumption) | exact isM.g8 (by assumption) | exact isM.g7 (by assumption) | exact isM.g6 (by assumption) | exact isM.g5 (by assumption) | exact isM.g1 (by assumption) | exact isM.g2 (by assumption)) (by first | assumption | exact b01_r | exact bz_r | omega | (constructor <;> omega) | exact hM _ | exact hPo _ | exact hTa _ | exact hRo _) (by first | assumption | exact b01_r | exact bz_r | omega | (constructor <;> omega) | exact hM _ | exact hPo _ | exact hTa _ | exact hRo _) (by first | assumption | exact b01_r | exact bz_r | omega | (constructor <;> omega) | exact hM _ | exact hPo _ | exact hTa _ | exact hRo _) (by omega) ?_
    refine rj_bipush (pc := 33) dX11_doesIn_33 (by decide +kernel) ?_
    refine rj_icmp_ne (pc := 35) (tgt := 97) dX11_doesIn_35 (by decide) (by first | assumption | exact b01_r | exact bz_r | omega | (constructor <;> omega) | exact hM _ | exact hPo _ | exact hTa _ | exact hRo _) (by first | assumption | exact b01_r | exact bz_r | omega | (constructor <;> omega) | exact hM _ | exact hPo _ | exact hTa _ | exact hRo _) (fun c_35 => ?_) (fun c_35 => ?_)
    · refine r_aload_n (pc := 97) dX11_doesIn_97 rfl (by first | rfl | exact isRefV_rf _) ?_
      refine rm_getf (pc := 98) dX11_doesIn_98 fX11_21 (by assumption) rfl ?_
      refine r_iload_n (pc := 101) dX11_doesIn_101 rfl ?_
      refine rj_iald (pc := 102) (j := p) dX11_doesIn_102 (by first | exact isM.g0 (by assumption) | exact isM.g3 (by assumption) | exact isM.g4 (by assumption) | exact isM.g8 (by assumption) | exact isM.g7 (by assumption) | exact isM.g6 (by assumption) | exact isM.g5 (by assumption) | exact isM.g1 (by assumption) | exact isM.g2 (by assumption)) (by first | assumption | exact b01_r | exact bz_r | omega | (constructor <;> omega) | exact hM _ | exact hPo _ | exact hTa _ | exact hRo _) (by first | assumption | exact b01_r | exact bz_r | omega | (constructor <;> omega) | exact hM _ | exact hPo _ | exact hTa _ | exact hRo _) (by first | assumption | exact b01_r | exact bz_r | omega | (constructor <;> omega) | exact hM _ | exact hPo _ | exact hTa _ | exact hRo _) (by omega) ?_
      refine rj_bipush (pc := 103) dX11_doesIn_103 (by decide +kernel) ?_
      refine rj_icmp_ne (pc := 105) (tgt := 132) dX11_doesIn_105 (by decide) (by first | assumption | exact b01_r | exact bz_r | omega | (constructor <;> omega) | exact hM _ | exact hPo _ | exact hTa _ | exact hRo _) (by first | assumption | exact b01_r | exact bz_r | omega | (constructor <;> omega) | exact hM _ | exact hPo _ | exact hTa _ | exact hRo _) (fun c_105 => ?_) (fun c_105 => ?_)
      · refine r_aload_n (pc := 132) dX11_doesIn_132 rfl (by first | rfl | exact isRefV_rf _) ?_
        refine r_iload_n (pc := 133) dX11_doesIn_133 rfl ?_
        refine r_iload (pc := 134) dX11_doesIn_134 rfl ?_
        refine r_callV2 (pc := 136) dX11_doesIn_136 qX11_does kX11_136 vX11_does (by exact isM.gx (by assumption)) rfl rfl (Nat.le_of_ble_eq_true rfl) (hd _ _ hR) (fun v_136 h_136 q_136 => ?_)
        obtain ⟨rfl, hB_136, S_136⟩ := q_136
        refine r_ireturn (pc := 139) .int dX11_doesIn_139 rfl (by first | rfl | assumption) ?_
        exact ⟨rfl, hB_136, S_136⟩
      · exact absurd c_105 hk2
    · exact absurd c_35 hk
def turnFinR (sh : (Nat → Int) → Int → (Nat → Int) → Prop) (t E : Nat) (m : Nat → Int) (p : Nat) (m' : Nat → Int) : Prop :=
  mOk m ∧ p ≤ 12343 ∧ ((p < E ∧ m' = updI m (1611 + 72 * t) p) ∨ (E ≤ p ∧ isOverR sh t (if cnt (faultB m t) (m 4).toNat = 0 then 1 else 2) (updI m (1611 + 72 * t) p) m'))
def turnLoopR (pool : Nat → Int) (cl : (Nat → Int) → Nat → (Nat → Int) → Prop) (sh : (Nat → Int) → Int → (Nat → Int) → Prop) (t E : Nat) : Nat → (Nat → Int) → Nat → (Nat → Int) → Prop
  | 0, m, p, m' => E ≤ p ∧ turnFinR sh t E m p m'
  | k + 1, m, p, m' => (E ≤ p ∧ turnFinR sh t E m p m') ∨ (p < E ∧ ∃ f m1, doesInR pool cl sh m t p f m1 ∧ InR f ∧ (∀ q, InR (m1 q)) ∧
      ((¬ f = 0 ∧ isOverR sh t 2 (updI m1 (1618 + 72 * t) f) m') ∨
       (f = 0 ∧ ((pool p = 46 ∧ turnFinR sh t E (updI m1 (1615 + 72 * t) (m1 (1615 + 72 * t) + 1)) (behL pool (E - p) p 0 + 1) m') ∨
                 (¬ pool p = 46 ∧ turnLoopR pool cl sh t E k (updI m1 (1615 + 72 * t) (m1 (1615 + 72 * t) + 1)) (behL pool (E - p) p 0 + 1) m')))))
def turnM (m : Nat → Int) (t : Nat) : Nat → Int := updI (updI (updI m 7 (m 7 + 1)) (1612 + 72 * t) (m (1612 + 72 * t) + 1)) (1613 + 72 * t) (m 7 + 1)
def turnR (pool : Nat → Int) (cl : (Nat → Int) → Nat → (Nat → Int) → Prop) (sh : (Nat → Int) → Int → (Nat → Int) → Prop) (m : Nat → Int) (t : Nat) (m' : Nat → Int) : Prop :=
  t ≤ 9 ∧ mOk (turnM m t) ∧ (∃ n : Nat, n ≤ 60 ∧ m (1619 + 72 * t) = n) ∧
  ((fineV (turnM m t) t = false ∧ isOverR sh t 3 (turnM m t) m') ∨
   (fineV (turnM m t) t = true ∧ ∃ p E k : Nat, m (1617 + 72 * t) = E ∧ m (1611 + 72 * t) = p ∧ E ≤ 12342 ∧ p ≤ 12343 ∧ turnLoopR pool cl sh t E k (turnM m t) p m'))
set_option maxHeartbeats 4000000 in
set_option maxRecDepth 100000 in
theorem L_turnFin {G : mG} {l : Launch} {D : Nat} (hD : 280 ≤ D) {x s : Nat} {f4 f6 f8 f9 f10 f11 f12 f13 f14 f16 f18 : Int} {kp was pool tape pln pap rwd rw : Nat → Int} {sh : (Nat → Int) → Int → (Nat → Int) → Prop} (hsh : ∀ (m1 m2 : Nat → Int) (e : Int) (h : mH), isM h x (mFs x f4 f6 f8 f9 f10 f11 f12 f13 f14 f16 f18 s) m1 kp was pool tape pln pap rwd rw → sh m1 e m2 → RUNM G l D mX11_shuts [.ref x, .int (J e)] h (fun v h' => v = none ∧ isM h' x (mFs x f4 f6 f8 f9 f10 f11 f12 f13 f14 f16 f18 s) m2 kp was pool tape pln pap rwd rw ∧ Same (mBlk x) h h')) {t E : Nat} (ht : t ≤ 9) (hE : E ≤ 12342) {m' : Nat → Int} {m : Nat → Int} {p : Nat} {h : mH} (hB : isM h x (mFs x f4 f6 f8 f9 f10 f11 f12 f13 f14 f16 f18 s) m kp was pool tape pln pap rwd rw) (hR : turnFinR sh t E m p m') {go : Int} {v5 : Option Value} : RUN G l (D + 2) mX11_turn 182 [some (.ref x), some (.int (J (t : Int))), some (.int (J (E : Int))), some (.int (J (p : Int))), some (.int (J go)), v5] [] h (fun v h' => v = none ∧ isM h' x (mFs x f4 f6 f8 f9 f10 f11 f12 f13 f14 f16 f18 s) m' kp was pool tape pln pap rwd rw ∧ Same (mBlk x) h h') := by
  obtain ⟨hok, hp, hR⟩ := hR
  obtain ⟨hM, k0, k1, k2, k3, k4, k5, k7⟩ := id hok
  have hB0 := hB
  have e4 : updI m (1611 + 72 * t) p 4 = m 4 := updI_n (by omega)
  have ef : ∀ n, cnt (faultB (updI m (1611 + 72 * t) p) t) n = cnt (faultB m t) n := by
    intro n
    induction n with
    | zero => rfl
    | succ n ih => unfold cnt; rw [ih]; unfold faultB; rw [updI_n (by omega)]
  dsimp only [mFs] at hB
  rcases hR with ⟨hlt, rfl⟩ | ⟨hlt, hR⟩
  · refine r_aload_n (pc := 182) dX11_turn_182 rfl (by first | rfl | exact isRefV_rf _) ?_
    refine rm_getf (pc := 183) dX11_turn_183 fX11_11 (by assumption) rfl ?_
    refine r_iload_n (pc := 186) dX11_turn_186 rfl ?_
    refine rj_iconst (pc := 187) dX11_turn_187 ?_
    refine rj_iconst (pc := 188) dX11_turn_188 ?_
    refine r_callS3 (pc := 189) dX11_turn_189 qX11_ofTask kX11_58 sX11_ofTask (Nat.le_of_ble_eq_true rfl) (m_ofTask _) (fun v_189 h_189 q_189 => ?_)
    obtain ⟨rfl, rfl⟩ := q_189
    refine r_iload_n (pc := 192) dX11_turn_192 rfl ?_
    first | refine rm_iast0 (pc := 193) (j := 1611 + 72 * t) dX11_turn_193 (by assumption) (by first | assumption | exact b01_r | exact bz_r | omega | (constructor <;> omega) | exact hM _ | exact hPo _ | exact hTa _ | exact hRo _) (by first | assumption | exact b01_r | exact bz_r | omega | (constructor <;> omega) | exact hM _ | exact hPo _ | exact hTa _ | exact hRo _) (by first | assumption | exact b01_r | exact bz_r | omega | (constructor <;> omega) | exact hM _ | exact hPo _ | exact hTa _ | exact hRo _) (by omega) (fun h_193 hB_193 hS_193 => ?_)
    refine r_iload_n (pc := 194) dX11_turn_194 rfl ?_
    refine r_iload_n (pc := 195) dX11_turn_195 rfl ?_
    refine rj_icmp_lt (pc := 196) (tgt := 217) dX11_turn_196 (by decide) (by first | assumption | exact b01_r | exact bz_r | omega | (constructor <;> omega) | exact hM _ | exact hPo _ | exact hTa _ | exact hRo _) (by first | assumption | exact b01_r | exact bz_r | omega | (constructor <;> omega) | exact hM _ | exact hPo _ | exact hTa _ | exact hRo _) (fun c_196 => ?_) (fun c_196 => ?_)
    · refine r_return (pc := 217) dX11_turn_217 rfl ?_
      exact ⟨rfl, hB_193, hS_193⟩
    · exfalso; omega
  · have rg : InR (cnt (faultB m t) (m 4).toNat) := by have := cnt_r (faultB m t) (m 4).toNat; constructor <;> omega
    refine r_aload_n (pc := 182) dX11_turn_182 rfl (by first | rfl | exact isRefV_rf _) ?_
    refine rm_getf (pc := 183) dX11_turn_183 fX11_11 (by assumption) rfl ?_
    refine r_iload_n (pc := 186) dX11_turn_186 rfl ?_
    refine rj_iconst (pc := 187) dX11_turn_187 ?_
    refine rj_iconst (pc := 188) dX11_turn_188 ?_
    refine r_callS3 (pc := 189) dX11_turn_189 qX11_ofTask kX11_58 sX11_ofTask (Nat.le_of_ble_eq_true rfl) (m_ofTask _) (fun v_189 h_189 q_189 => ?_)
    obtain ⟨rfl, rfl⟩ := q_189
    refine r_iload_n (pc := 192) dX11_turn_192 rfl ?_
    first | refine rm_iast0 (pc := 193) (j := 1611 + 72 * t) dX11_turn_193 (by assumption) (by first | assumption | exact b01_r | exact bz_r | omega | (constructor <;> omega) | exact hM _ | exact hPo _ | exact hTa _ | exact hRo _) (by first | assumption | exact b01_r | exact bz_r | omega | (constructor <;> omega) | exact hM _ | exact hPo _ | exact hTa _ | exact hRo _) (by first | assumption | exact b01_r | exact bz_r | omega | (constructor <;> omega) | exact hM _ | exact hPo _ | exact hTa _ | exact hRo _) (by omega) (fun h_193 hB_193 hS_193 => ?_)
    refine r_iload_n (pc := 194) dX11_turn_194 rfl ?_
    refine r_iload_n (pc := 195) dX11_turn_195 rfl ?_
    refine rj_icmp_lt (pc := 196) (tgt := 217) dX11_turn_196 (by decide) (by first | assumption | exact b01_r | exact bz_r | omega | (constructor <;> omega) | exact hM _ | exact hPo _ | exact hTa _ | exact hRo _) (by first | assumption | exact b01_r | exact bz_r | omega | (constructor <;> omega) | exact hM _ | exact hPo _ | exact hTa _ | exact hRo _) (fun c_196 => ?_) (fun c_196 => ?_)
    · exfalso; omega
    · refine r_aload_n (pc := 199) dX11_turn_199 rfl (by first | rfl | exact isRefV_rf _) ?_
      refine r_iload_n (pc := 200) dX11_turn_200 rfl ?_
      refine r_aload_n (pc := 201) dX11_turn_201 rfl (by first | rfl | exact isRefV_rf _) ?_
      refine r_iload_n (pc := 202) dX11_turn_202 rfl ?_
      refine r_callV1 (pc := 203) dX11_turn_203 qX11_gatheredBy kX11_198 vX11_gatheredBy (by exact isM.gx (by assumption)) rfl rfl (Nat.le_of_ble_eq_true rfl) (by have y := m_gatheredBy (G := G) (l := l) 0 hB_193 (fun q => by unfold updI; split; exact ⟨by omega, by omega⟩; exact hM q) (N := (m 4).toNat) (by rw [e4]; omega) (by omega) (a := (t : Int)) ⟨by omega, by omega⟩; rw [ef] at y; exact y.deeper (by omega)) (fun v_203 h_203 q_203 => ?_)
      obtain ⟨rfl, rfl⟩ := q_203
      refine rj_if_ne (pc := 206) (tgt := 213) dX11_turn_206 (by decide) (by first | assumption | exact b01_r | exact bz_r | omega | (constructor <;> omega) | exact hM _ | exact hPo _ | exact hTa _ | exact hRo _) (fun c_206 => ?_) (fun c_206 => ?_)
      · try simp only [b01_0, bz_0, Classical.not_not] at c_206
        refine rj_iconst (pc := 213) dX11_turn_213 ?_
        rw [show (J 2) = J (if cnt (faultB m t) (m 4).toNat = 0 then 1 else 2) by rw [if_neg c_206]]
        refine r_callV2 (pc := 214) dX11_turn_214 qX11_isOver kX11_192 vX11_isOver (by exact isM.gx (by assumption)) rfl rfl (Nat.le_of_ble_eq_true rfl) ((m_isOver hD hsh hB_193 hR).deeper (by omega)) (fun v_214 h_214 q_214 => ?_)
        obtain ⟨rfl, hB_214, S_214⟩ := q_214
        refine r_return (pc := 217) dX11_turn_217 rfl ?_
        exact ⟨rfl, hB_214, hS_193.trans S_214⟩
      · try simp only [b01_0, bz_0, Classical.not_not] at c_206
        refine rj_iconst (pc := 209) dX11_turn_209 ?_
        refine r_goto (pc := 210) (tgt := 214) dX11_turn_210 (by decide) ?_
        rw [show (J 1) = J (if cnt (faultB m t) (m 4).toNat = 0 then 1 else 2) by rw [if_pos c_206]]
        refine r_callV2 (pc := 214) dX11_turn_214 qX11_isOver kX11_192 vX11_isOver (by exact isM.gx (by assumption)) rfl rfl (Nat.le_of_ble_eq_true rfl) ((m_isOver hD hsh hB_193 hR).deeper (by omega)) (fun v_214 h_214 q_214 => ?_)
        obtain ⟨rfl, hB_214, S_214⟩ := q_214
        refine r_return (pc := 217) dX11_turn_217 rfl ?_
        exact ⟨rfl, hB_214, hS_193.trans S_214⟩
set_option maxHeartbeats 4000000 in
set_option maxRecDepth 100000 in
theorem L_goes0 {G : mG} {l : Launch} {D : Nat} {h : mH} {v0 v1 v2 v3 v5 : Option Value} {Q : Option Value → mH → Prop} (K : RUN G l D mX11_turn 182 [v0, v1, v2, v3, some (.int (J 0)), v5] [] h Q) : RUN G l D mX11_turn 92 [v0, v1, v2, v3, some (.int (J 0)), v5] [] h Q := by
  refine r_iload (pc := 92) dX11_turn_92 rfl ?_
  refine rj_if_eq (pc := 94) (tgt := 182) dX11_turn_94 (by decide) (by first | assumption | exact b01_r | exact bz_r | omega | (constructor <;> omega) | exact hM _ | exact hPo _ | exact hTa _ | exact hRo _) (fun c_94 => ?_) (fun c_94 => ?_)
  · try simp only [b01_0, bz_0, Classical.not_not] at c_94
    exact K
  · try simp only [b01_0, bz_0, Classical.not_not] at c_94
    all_goals (first | exact absurd trivial ‹¬ True› | (exfalso; omega))
set_option maxHeartbeats 4000000 in
set_option maxRecDepth 100000 in
theorem L_turn {G : mG} {l : Launch} {D : Nat} (hD : 280 ≤ D) {x s : Nat} {f4 f6 f8 f9 f10 f11 f12 f13 f14 f16 f18 : Int} {kp was pool tape pln pap rwd rw : Nat → Int} (hPo : ∀ q, InR (pool q)) {cl : (Nat → Int) → Nat → (Nat → Int) → Prop} {sh : (Nat → Int) → Int → (Nat → Int) → Prop} (hcl : ∀ (m1 m2 : Nat → Int) (t : Nat) (h : mH), isM h x (mFs x f4 f6 f8 f9 f10 f11 f12 f13 f14 f16 f18 s) m1 kp was pool tape pln pap rwd rw → cl m1 t m2 → RUNM G l D mX11_closes [.ref x, .int (J (t : Int))] h (fun v h' => v = none ∧ isM h' x (mFs x f4 f6 f8 f9 f10 f11 f12 f13 f14 f16 f18 s) m2 kp was pool tape pln pap rwd rw ∧ Same (mBlk x) h h')) (hsh : ∀ (m1 m2 : Nat → Int) (e : Int) (h : mH), isM h x (mFs x f4 f6 f8 f9 f10 f11 f12 f13 f14 f16 f18 s) m1 kp was pool tape pln pap rwd rw → sh m1 e m2 → RUNM G l D mX11_shuts [.ref x, .int (J e)] h (fun v h' => v = none ∧ isM h' x (mFs x f4 f6 f8 f9 f10 f11 f12 f13 f14 f16 f18 s) m2 kp was pool tape pln pap rwd rw ∧ Same (mBlk x) h h')) {t E : Nat} (ht : t ≤ 9) (hE : E ≤ 12342) {m' : Nat → Int} : ∀ (k : Nat) (m : Nat → Int) (p : Nat) (h : mH) (v5 : Option Value), isM h x (mFs x f4 f6 f8 f9 f10 f11 f12 f13 f14 f16 f18 s) m kp was pool tape pln pap rwd rw → p ≤ 12343 → turnLoopR pool cl sh t E k m p m' → RUN G l (D + 4) mX11_turn 92 [some (.ref x), some (.int (J (t : Int))), some (.int (J (E : Int))), some (.int (J (p : Int))), some (.int (J 1)), v5] [] h (fun v h' => v = none ∧ isM h' x (mFs x f4 f6 f8 f9 f10 f11 f12 f13 f14 f16 f18 s) m' kp was pool tape pln pap rwd rw ∧ Same (mBlk x) h h') := by
  have fin : ∀ (m : Nat → Int) (p : Nat) (h : mH) (go : Int) (v5 : Option Value), isM h x (mFs x f4 f6 f8 f9 f10 f11 f12 f13 f14 f16 f18 s) m kp was pool tape pln pap rwd rw → turnFinR sh t E m p m' → RUN G l (D + 4) mX11_turn 182 [some (.ref x), some (.int (J (t : Int))), some (.int (J (E : Int))), some (.int (J (p : Int))), some (.int (J go)), v5] [] h (fun v h' => v = none ∧ isM h' x (mFs x f4 f6 f8 f9 f10 f11 f12 f13 f14 f16 f18 s) m' kp was pool tape pln pap rwd rw ∧ Same (mBlk x) h h') := fun m p h go v5 hB hR => (L_turnFin hD hsh ht hE hB hR).deeper (by omega)
  intro k
  induction k with
  | zero =>
    intro m p h v5 hB hp hL
    have hB0 := hB
    dsimp only [mFs] at hB
    refine r_iload (pc := 92) dX11_turn_92 rfl ?_
    refine rj_if_eq (pc := 94) (tgt := 182) dX11_turn_94 (by decide) (by first | assumption | exact b01_r | exact bz_r | omega | (constructor <;> omega) | exact hM _ | exact hPo _ | exact hTa _ | exact hRo _) (fun c_94 => ?_) (fun c_94 => ?_)
    · try simp only [b01_0, bz_0, Classical.not_not] at c_94
      all_goals (first | exact absurd trivial ‹¬ True› | (exfalso; omega))
    · try simp only [b01_0, bz_0, Classical.not_not] at c_94
      refine r_iload_n (pc := 97) dX11_turn_97 rfl ?_
      refine r_iload_n (pc := 98) dX11_turn_98 rfl ?_
      refine rj_icmp_ge (pc := 99) (tgt := 182) dX11_turn_99 (by decide) (by first | assumption | exact b01_r | exact bz_r | omega | (constructor <;> omega) | exact hM _ | exact hPo _ | exact hTa _ | exact hRo _) (by first | assumption | exact b01_r | exact bz_r | omega | (constructor <;> omega) | exact hM _ | exact hPo _ | exact hTa _ | exact hRo _) (fun c_99 => ?_) (fun c_99 => ?_)
      · exact fin m p h _ _ hB0 hL.2
      · exfalso; have := hL.1; omega
  | succ k ih =>
    intro m p h v5 hB hp hL
    have hB0 := hB
    rcases hL with ⟨hEp, hL⟩ | ⟨hpE, f, m1, hdo, hf, hM1, hL⟩
    · dsimp only [mFs] at hB
      refine r_iload (pc := 92) dX11_turn_92 rfl ?_
      refine rj_if_eq (pc := 94) (tgt := 182) dX11_turn_94 (by decide) (by first | assumption | exact b01_r | exact bz_r | omega | (constructor <;> omega) | exact hM _ | exact hPo _ | exact hTa _ | exact hRo _) (fun c_94 => ?_) (fun c_94 => ?_)
      · try simp only [b01_0, bz_0, Classical.not_not] at c_94
        all_goals (first | exact absurd trivial ‹¬ True› | (exfalso; omega))
      · try simp only [b01_0, bz_0, Classical.not_not] at c_94
        refine r_iload_n (pc := 97) dX11_turn_97 rfl ?_
        refine r_iload_n (pc := 98) dX11_turn_98 rfl ?_
        refine rj_icmp_ge (pc := 99) (tgt := 182) dX11_turn_99 (by decide) (by first | assumption | exact b01_r | exact bz_r | omega | (constructor <;> omega) | exact hM _ | exact hPo _ | exact hTa _ | exact hRo _) (by first | assumption | exact b01_r | exact bz_r | omega | (constructor <;> omega) | exact hM _ | exact hPo _ | exact hTa _ | exact hRo _) (fun c_99 => ?_) (fun c_99 => ?_)
        · exact fin m p h _ _ hB0 hL
        · exfalso; omega
    · dsimp only [mFs] at hB
      have rp := hPo p
      have hb := behL_r (pool := pool) (E - p) p 0
      rcases hL with ⟨hne, hL⟩ | ⟨rfl, hL⟩
      · refine r_iload (pc := 92) dX11_turn_92 rfl ?_
        refine rj_if_eq (pc := 94) (tgt := 182) dX11_turn_94 (by decide) (by first | assumption | exact b01_r | exact bz_r | omega | (constructor <;> omega) | exact hM _ | exact hPo _ | exact hTa _ | exact hRo _) (fun c_94 => ?_) (fun c_94 => ?_)
        · try simp only [b01_0, bz_0, Classical.not_not] at c_94
          all_goals (first | exact absurd trivial ‹¬ True› | (exfalso; omega))
        · try simp only [b01_0, bz_0, Classical.not_not] at c_94
          refine r_iload_n (pc := 97) dX11_turn_97 rfl ?_
          refine r_iload_n (pc := 98) dX11_turn_98 rfl ?_
          refine rj_icmp_ge (pc := 99) (tgt := 182) dX11_turn_99 (by decide) (by first | assumption | exact b01_r | exact bz_r | omega | (constructor <;> omega) | exact hM _ | exact hPo _ | exact hTa _ | exact hRo _) (by first | assumption | exact b01_r | exact bz_r | omega | (constructor <;> omega) | exact hM _ | exact hPo _ | exact hTa _ | exact hRo _) (fun c_99 => ?_) (fun c_99 => ?_)
          · exfalso; omega
          · refine r_aload_n (pc := 102) dX11_turn_102 rfl (by first | rfl | exact isRefV_rf _) ?_
            refine r_iload_n (pc := 103) dX11_turn_103 rfl ?_
            refine r_iload_n (pc := 104) dX11_turn_104 rfl ?_
            refine r_callV2 (pc := 105) dX11_turn_105 qX11_doesIn kX11_195 vX11_doesIn (by exact isM.gx (by assumption)) rfl rfl (Nat.le_of_ble_eq_true rfl) ((m_doesIn hD hPo hcl hsh hB0 hdo).deeper (by omega)) (fun v_105 h_105 q_105 => ?_)
            obtain ⟨rfl, hB_105, S_105⟩ := q_105
            refine r_istore (pc := 108) dX11_turn_108 (Nat.le_of_ble_eq_true rfl) ?_
            dsimp only [lsSt, List.set, mLs, mEnt]
            refine r_iload (pc := 110) dX11_turn_110 rfl ?_
            refine rj_if_eq (pc := 112) (tgt := 136) dX11_turn_112 (by decide) (by first | assumption | exact b01_r | exact bz_r | omega | (constructor <;> omega) | exact hM _ | exact hPo _ | exact hTa _ | exact hRo _) (fun c_112 => ?_) (fun c_112 => ?_)
            · try simp only [b01_0, bz_0, Classical.not_not] at c_112
              exact absurd c_112 hne
            · try simp only [b01_0, bz_0, Classical.not_not] at c_112
              refine r_aload_n (pc := 115) dX11_turn_115 rfl (by first | rfl | exact isRefV_rf _) ?_
              refine rm_getf (pc := 116) dX11_turn_116 fX11_11 (by assumption) rfl ?_
              refine r_iload_n (pc := 119) dX11_turn_119 rfl ?_
              refine rj_bipush (pc := 120) dX11_turn_120 (by decide +kernel) ?_
              refine rj_iconst (pc := 122) dX11_turn_122 ?_
              refine r_callS3 (pc := 123) dX11_turn_123 qX11_ofTask kX11_58 sX11_ofTask (Nat.le_of_ble_eq_true rfl) (m_ofTask _) (fun v_123 h_123 q_123 => ?_)
              obtain ⟨rfl, rfl⟩ := q_123
              refine r_iload (pc := 126) dX11_turn_126 rfl ?_
              first | refine rm_iast0 (pc := 128) (j := 1618 + 72 * t) dX11_turn_128 (by assumption) (by first | assumption | exact b01_r | exact bz_r | omega | (constructor <;> omega) | exact hM _ | exact hPo _ | exact hTa _ | exact hRo _) (by first | assumption | exact b01_r | exact bz_r | omega | (constructor <;> omega) | exact hM _ | exact hPo _ | exact hTa _ | exact hRo _) (by first | assumption | exact b01_r | exact bz_r | omega | (constructor <;> omega) | exact hM _ | exact hPo _ | exact hTa _ | exact hRo _) (by omega) (fun h_128 hB_128 hS_128 => ?_)
              refine r_aload_n (pc := 129) dX11_turn_129 rfl (by first | rfl | exact isRefV_rf _) ?_
              refine r_iload_n (pc := 130) dX11_turn_130 rfl ?_
              refine rj_iconst (pc := 131) dX11_turn_131 ?_
              refine r_callV2 (pc := 132) dX11_turn_132 qX11_isOver kX11_192 vX11_isOver (by exact isM.gx (by assumption)) rfl rfl (Nat.le_of_ble_eq_true rfl) ((m_isOver hD hsh hB_128 hL).deeper (by omega)) (fun v_132 h_132 q_132 => ?_)
              obtain ⟨rfl, hB_132, S_132⟩ := q_132
              refine r_return (pc := 135) dX11_turn_135 rfl ?_
              exact ⟨rfl, hB_132, (S_105.trans hS_128).trans S_132⟩
      · refine r_iload (pc := 92) dX11_turn_92 rfl ?_
        refine rj_if_eq (pc := 94) (tgt := 182) dX11_turn_94 (by decide) (by first | assumption | exact b01_r | exact bz_r | omega | (constructor <;> omega) | exact hM _ | exact hPo _ | exact hTa _ | exact hRo _) (fun c_94 => ?_) (fun c_94 => ?_)
        · try simp only [b01_0, bz_0, Classical.not_not] at c_94
          all_goals (first | exact absurd trivial ‹¬ True› | (exfalso; omega))
        · try simp only [b01_0, bz_0, Classical.not_not] at c_94
          refine r_iload_n (pc := 97) dX11_turn_97 rfl ?_
          refine r_iload_n (pc := 98) dX11_turn_98 rfl ?_
          refine rj_icmp_ge (pc := 99) (tgt := 182) dX11_turn_99 (by decide) (by first | assumption | exact b01_r | exact bz_r | omega | (constructor <;> omega) | exact hM _ | exact hPo _ | exact hTa _ | exact hRo _) (by first | assumption | exact b01_r | exact bz_r | omega | (constructor <;> omega) | exact hM _ | exact hPo _ | exact hTa _ | exact hRo _) (fun c_99 => ?_) (fun c_99 => ?_)
          · exfalso; omega
          · refine r_aload_n (pc := 102) dX11_turn_102 rfl (by first | rfl | exact isRefV_rf _) ?_
            refine r_iload_n (pc := 103) dX11_turn_103 rfl ?_
            refine r_iload_n (pc := 104) dX11_turn_104 rfl ?_
            refine r_callV2 (pc := 105) dX11_turn_105 qX11_doesIn kX11_195 vX11_doesIn (by exact isM.gx (by assumption)) rfl rfl (Nat.le_of_ble_eq_true rfl) ((m_doesIn hD hPo hcl hsh hB0 hdo).deeper (by omega)) (fun v_105 h_105 q_105 => ?_)
            obtain ⟨rfl, hB_105, S_105⟩ := q_105
            refine r_istore (pc := 108) dX11_turn_108 (Nat.le_of_ble_eq_true rfl) ?_
            dsimp only [lsSt, List.set, mLs, mEnt]
            refine r_iload (pc := 110) dX11_turn_110 rfl ?_
            refine rj_if_eq (pc := 112) (tgt := 136) dX11_turn_112 (by decide) (by first | assumption | exact b01_r | exact bz_r | omega | (constructor <;> omega) | exact hM _ | exact hPo _ | exact hTa _ | exact hRo _) (fun c_112 => ?_) (fun c_112 => ?_)
            · try simp only [b01_0, bz_0, Classical.not_not] at c_112
              refine r_aload_n (pc := 136) dX11_turn_136 rfl (by first | rfl | exact isRefV_rf _) ?_
              refine rm_getf (pc := 137) dX11_turn_137 fX11_11 (by assumption) rfl ?_
              refine r_iload_n (pc := 140) dX11_turn_140 rfl ?_
              refine rj_bipush (pc := 141) dX11_turn_141 (by decide +kernel) ?_
              refine rj_iconst (pc := 143) dX11_turn_143 ?_
              refine r_callS3 (pc := 144) dX11_turn_144 qX11_ofTask kX11_58 sX11_ofTask (Nat.le_of_ble_eq_true rfl) (m_ofTask _) (fun v_144 h_144 q_144 => ?_)
              obtain ⟨rfl, rfl⟩ := q_144
              refine r_dup2 (pc := 147) dX11_turn_147 rfl rfl ?_
              refine rj_iald (pc := 148) (j := 1615 + 72 * t) dX11_turn_148 (by first | exact isM.g0 (by assumption) | exact isM.g3 (by assumption) | exact isM.g4 (by assumption) | exact isM.g8 (by assumption) | exact isM.g7 (by assumption) | exact isM.g6 (by assumption) | exact isM.g5 (by assumption) | exact isM.g1 (by assumption) | exact isM.g2 (by assumption)) (by first | assumption | exact b01_r | exact bz_r | omega | (constructor <;> omega) | exact hM _ | exact hPo _ | exact hTa _ | exact hRo _) (by first | assumption | exact b01_r | exact bz_r | omega | (constructor <;> omega) | exact hM _ | exact hPo _ | exact hTa _ | exact hRo _) (by first | assumption | exact b01_r | exact bz_r | omega | (constructor <;> omega) | exact hM _ | exact hPo _ | exact hTa _ | exact hRo _) (by omega) ?_
              refine rj_iconst (pc := 149) dX11_turn_149 ?_
              refine rj_iadd (pc := 150) dX11_turn_150 ?_
              first | refine rm_iast0 (pc := 151) (j := 1615 + 72 * t) dX11_turn_151 (by assumption) (by first | assumption | exact b01_r | exact bz_r | omega | (constructor <;> omega) | exact hM _ | exact hPo _ | exact hTa _ | exact hRo _) (by first | assumption | exact b01_r | exact bz_r | omega | (constructor <;> omega) | exact hM _ | exact hPo _ | exact hTa _ | exact hRo _) (by first | assumption | exact b01_r | exact bz_r | omega | (constructor <;> omega) | exact hM _ | exact hPo _ | exact hTa _ | exact hRo _) (by omega) (fun h_151 hB_151 hS_151 => ?_)
              refine r_aload_n (pc := 152) dX11_turn_152 rfl (by first | rfl | exact isRefV_rf _) ?_
              refine rm_getf (pc := 153) dX11_turn_153 fX11_21 (by assumption) rfl ?_
              refine r_iload_n (pc := 156) dX11_turn_156 rfl ?_
              refine rj_iald (pc := 157) (j := p) dX11_turn_157 (by first | exact isM.g0 (by assumption) | exact isM.g3 (by assumption) | exact isM.g4 (by assumption) | exact isM.g8 (by assumption) | exact isM.g7 (by assumption) | exact isM.g6 (by assumption) | exact isM.g5 (by assumption) | exact isM.g1 (by assumption) | exact isM.g2 (by assumption)) (by first | assumption | exact b01_r | exact bz_r | omega | (constructor <;> omega) | exact hM _ | exact hPo _ | exact hTa _ | exact hRo _) (by first | assumption | exact b01_r | exact bz_r | omega | (constructor <;> omega) | exact hM _ | exact hPo _ | exact hTa _ | exact hRo _) (by first | assumption | exact b01_r | exact bz_r | omega | (constructor <;> omega) | exact hM _ | exact hPo _ | exact hTa _ | exact hRo _) (by omega) ?_
              refine rj_bipush (pc := 158) dX11_turn_158 (by decide +kernel) ?_
              refine rj_icmp_eq (pc := 160) (tgt := 167) dX11_turn_160 (by decide) (by first | assumption | exact b01_r | exact bz_r | omega | (constructor <;> omega) | exact hM _ | exact hPo _ | exact hTa _ | exact hRo _) (by first | assumption | exact b01_r | exact bz_r | omega | (constructor <;> omega) | exact hM _ | exact hPo _ | exact hTa _ | exact hRo _) (fun c_160 => ?_) (fun c_160 => ?_)
              · refine rj_iconst (pc := 167) dX11_turn_167 ?_
                refine r_istore (pc := 168) dX11_turn_168 (Nat.le_of_ble_eq_true rfl) ?_
                dsimp only [lsSt, List.set, mLs, mEnt]
                refine r_aload_n (pc := 170) dX11_turn_170 rfl (by first | rfl | exact isRefV_rf _) ?_
                refine r_iload_n (pc := 171) dX11_turn_171 rfl ?_
                refine r_iload_n (pc := 172) dX11_turn_172 rfl ?_
                refine r_callV2 (pc := 173) dX11_turn_173 qX11_behind kX11_139 vX11_behind (by exact isM.gx (by assumption)) rfl rfl (Nat.le_of_ble_eq_true rfl) ((m_behind (G := G) (l := l) 0 hB_151 hPo (p := p) (E := E) (by omega) hE).deeper (by omega)) (fun v_173 h_173 q_173 => ?_)
                obtain ⟨rfl, rfl⟩ := q_173
                refine rj_iconst (pc := 176) dX11_turn_176 ?_
                refine rj_iadd (pc := 177) dX11_turn_177 ?_
                refine r_istore_n (pc := 178) dX11_turn_178 (Nat.le_of_ble_eq_true rfl) ?_
                dsimp only [lsSt, List.set, mLs, mEnt]
                refine r_goto (pc := 179) (tgt := 92) dX11_turn_179 (by decide) ?_
                rcases hL with ⟨hk, hL⟩ | ⟨hk, hL⟩
                · refine RUN.mono (L_goes0 (G := G) (l := l) (fin _ (behL pool (E - p) p 0 + 1) _ 0 _ hB_151 hL)) (fun v h' q => ⟨q.1, q.2.1, (S_105.trans hS_151).trans q.2.2⟩)
                · exact absurd c_160 hk
              · refine rj_iconst (pc := 163) dX11_turn_163 ?_
                refine r_goto (pc := 164) (tgt := 168) dX11_turn_164 (by decide) ?_
                refine r_istore (pc := 168) dX11_turn_168 (Nat.le_of_ble_eq_true rfl) ?_
                dsimp only [lsSt, List.set, mLs, mEnt]
                refine r_aload_n (pc := 170) dX11_turn_170 rfl (by first | rfl | exact isRefV_rf _) ?_
                refine r_iload_n (pc := 171) dX11_turn_171 rfl ?_
                refine r_iload_n (pc := 172) dX11_turn_172 rfl ?_
                refine r_callV2 (pc := 173) dX11_turn_173 qX11_behind kX11_139 vX11_behind (by exact isM.gx (by assumption)) rfl rfl (Nat.le_of_ble_eq_true rfl) ((m_behind (G := G) (l := l) 0 hB_151 hPo (p := p) (E := E) (by omega) hE).deeper (by omega)) (fun v_173 h_173 q_173 => ?_)
                obtain ⟨rfl, rfl⟩ := q_173
                refine rj_iconst (pc := 176) dX11_turn_176 ?_
                refine rj_iadd (pc := 177) dX11_turn_177 ?_
                refine r_istore_n (pc := 178) dX11_turn_178 (Nat.le_of_ble_eq_true rfl) ?_
                dsimp only [lsSt, List.set, mLs, mEnt]
                refine r_goto (pc := 179) (tgt := 92) dX11_turn_179 (by decide) ?_
                rcases hL with ⟨hk, hL⟩ | ⟨hk, hL⟩
                · exact absurd hk c_160
                · exact (ih _ (behL pool (E - p) p 0 + 1) _ _ hB_151 (by omega) hL).mono (fun v h' q => ⟨q.1, q.2.1, (S_105.trans hS_151).trans q.2.2⟩)
            · try simp only [b01_0, bz_0, Classical.not_not] at c_112
              all_goals (first | exact absurd trivial ‹¬ True› | (exfalso; omega))
set_option maxHeartbeats 4000000 in
set_option maxRecDepth 100000 in
theorem L_turn0 {G : mG} {l : Launch} {D : Nat} {x s : Nat} {f4 f6 f8 f9 f10 f11 f12 f13 f14 f16 f18 : Int} {kp was pool tape pln pap rwd rw : Nat → Int} {t : Nat} {m : Nat → Int} {h : mH} (hB : isM h x (mFs x f4 f6 f8 f9 f10 f11 f12 f13 f14 f16 f18 s) m kp was pool tape pln pap rwd rw) (ht : t ≤ 9) {Q : Option Value → mH → Prop} (K : ∀ h1, isM h1 x (mFs x f4 f6 f8 f9 f10 f11 f12 f13 (t : Int) f16 f18 s) (turnM m t) kp was pool tape pln pap rwd rw → Same (mBlk x) h h1 → RUN G l (D + 1) mX11_turn 49 [some (.ref x), some (.int (J (t : Int))), none, none, none, none] [] h1 Q) : RUN G l (D + 1) mX11_turn 0 [some (.ref x), some (.int (J (t : Int))), none, none, none, none] [] h Q := by
  have hB0 := hB
  dsimp only [mFs] at hB
  have e1 : updI m 7 (m 7 + 1) (1612 + 72 * t) = m (1612 + 72 * t) := updI_n (by omega)
  have e2 : updI (updI m 7 (m 7 + 1)) (1612 + 72 * t) (m (1612 + 72 * t) + 1) 7 = m 7 + 1 := (updI_n (by omega)).trans updI_s
  refine r_aload_n (pc := 0) dX11_turn_0 rfl (by first | rfl | exact isRefV_rf _) ?_
  refine r_iload_n (pc := 1) dX11_turn_1 rfl ?_
  refine rm_putf (pc := 2) dX11_turn_2 fX11_133 (by assumption) rfl rfl (Nat.le_of_ble_eq_true rfl) (fun h_2 hB_2 hS_2 => ?_)
  dsimp only [List.set, mFs] at hB_2
  refine r_aload_n (pc := 5) dX11_turn_5 rfl (by first | rfl | exact isRefV_rf _) ?_
  refine rm_getf (pc := 6) dX11_turn_6 fX11_11 (by assumption) rfl ?_
  refine rj_bipush (pc := 9) dX11_turn_9 (by decide +kernel) ?_
  refine r_dup2 (pc := 11) dX11_turn_11 rfl rfl ?_
  refine rj_iald (pc := 12) (j := 7) dX11_turn_12 (by first | exact isM.g0 (by assumption) | exact isM.g3 (by assumption) | exact isM.g4 (by assumption) | exact isM.g8 (by assumption) | exact isM.g7 (by assumption) | exact isM.g6 (by assumption) | exact isM.g5 (by assumption) | exact isM.g1 (by assumption) | exact isM.g2 (by assumption)) (by first | assumption | exact b01_r | exact bz_r | omega | (constructor <;> omega) | exact hM _ | exact hPo _ | exact hTa _ | exact hRo _) (by first | assumption | exact b01_r | exact bz_r | omega | (constructor <;> omega) | exact hM _ | exact hPo _ | exact hTa _ | exact hRo _) (by first | assumption | exact b01_r | exact bz_r | omega | (constructor <;> omega) | exact hM _ | exact hPo _ | exact hTa _ | exact hRo _) (by omega) ?_
  refine rj_iconst (pc := 13) dX11_turn_13 ?_
  refine rj_iadd (pc := 14) dX11_turn_14 ?_
  first | refine rm_iast0 (pc := 15) (j := 7) dX11_turn_15 (by assumption) (by first | assumption | exact b01_r | exact bz_r | omega | (constructor <;> omega) | exact hM _ | exact hPo _ | exact hTa _ | exact hRo _) (by first | assumption | exact b01_r | exact bz_r | omega | (constructor <;> omega) | exact hM _ | exact hPo _ | exact hTa _ | exact hRo _) (by first | assumption | exact b01_r | exact bz_r | omega | (constructor <;> omega) | exact hM _ | exact hPo _ | exact hTa _ | exact hRo _) (by omega) (fun h_15 hB_15 hS_15 => ?_)
  refine r_aload_n (pc := 16) dX11_turn_16 rfl (by first | rfl | exact isRefV_rf _) ?_
  refine rm_getf (pc := 17) dX11_turn_17 fX11_11 (by assumption) rfl ?_
  refine r_iload_n (pc := 20) dX11_turn_20 rfl ?_
  refine rj_iconst (pc := 21) dX11_turn_21 ?_
  refine rj_iconst (pc := 22) dX11_turn_22 ?_
  refine r_callS3 (pc := 23) dX11_turn_23 qX11_ofTask kX11_58 sX11_ofTask (Nat.le_of_ble_eq_true rfl) (m_ofTask _) (fun v_23 h_23 q_23 => ?_)
  obtain ⟨rfl, rfl⟩ := q_23
  refine r_dup2 (pc := 26) dX11_turn_26 rfl rfl ?_
  refine rj_iald (pc := 27) (j := 1612 + 72 * t) dX11_turn_27 (by first | exact isM.g0 (by assumption) | exact isM.g3 (by assumption) | exact isM.g4 (by assumption) | exact isM.g8 (by assumption) | exact isM.g7 (by assumption) | exact isM.g6 (by assumption) | exact isM.g5 (by assumption) | exact isM.g1 (by assumption) | exact isM.g2 (by assumption)) (by first | assumption | exact b01_r | exact bz_r | omega | (constructor <;> omega) | exact hM _ | exact hPo _ | exact hTa _ | exact hRo _) (by first | assumption | exact b01_r | exact bz_r | omega | (constructor <;> omega) | exact hM _ | exact hPo _ | exact hTa _ | exact hRo _) (by first | assumption | exact b01_r | exact bz_r | omega | (constructor <;> omega) | exact hM _ | exact hPo _ | exact hTa _ | exact hRo _) (by omega) ?_
  rw [e1]
  refine rj_iconst (pc := 28) dX11_turn_28 ?_
  refine rj_iadd (pc := 29) dX11_turn_29 ?_
  first | refine rm_iast0 (pc := 30) (j := 1612 + 72 * t) dX11_turn_30 (by assumption) (by first | assumption | exact b01_r | exact bz_r | omega | (constructor <;> omega) | exact hM _ | exact hPo _ | exact hTa _ | exact hRo _) (by first | assumption | exact b01_r | exact bz_r | omega | (constructor <;> omega) | exact hM _ | exact hPo _ | exact hTa _ | exact hRo _) (by first | assumption | exact b01_r | exact bz_r | omega | (constructor <;> omega) | exact hM _ | exact hPo _ | exact hTa _ | exact hRo _) (by omega) (fun h_30 hB_30 hS_30 => ?_)
  refine r_aload_n (pc := 31) dX11_turn_31 rfl (by first | rfl | exact isRefV_rf _) ?_
  refine rm_getf (pc := 32) dX11_turn_32 fX11_11 (by assumption) rfl ?_
  refine r_iload_n (pc := 35) dX11_turn_35 rfl ?_
  refine rj_iconst (pc := 36) dX11_turn_36 ?_
  refine rj_iconst (pc := 37) dX11_turn_37 ?_
  refine r_callS3 (pc := 38) dX11_turn_38 qX11_ofTask kX11_58 sX11_ofTask (Nat.le_of_ble_eq_true rfl) (m_ofTask _) (fun v_38 h_38 q_38 => ?_)
  obtain ⟨rfl, rfl⟩ := q_38
  refine r_aload_n (pc := 41) dX11_turn_41 rfl (by first | rfl | exact isRefV_rf _) ?_
  refine rm_getf (pc := 42) dX11_turn_42 fX11_11 (by assumption) rfl ?_
  refine rj_bipush (pc := 45) dX11_turn_45 (by decide +kernel) ?_
  refine rj_iald (pc := 47) (j := 7) dX11_turn_47 (by first | exact isM.g0 (by assumption) | exact isM.g3 (by assumption) | exact isM.g4 (by assumption) | exact isM.g8 (by assumption) | exact isM.g7 (by assumption) | exact isM.g6 (by assumption) | exact isM.g5 (by assumption) | exact isM.g1 (by assumption) | exact isM.g2 (by assumption)) (by first | assumption | exact b01_r | exact bz_r | omega | (constructor <;> omega) | exact hM _ | exact hPo _ | exact hTa _ | exact hRo _) (by first | assumption | exact b01_r | exact bz_r | omega | (constructor <;> omega) | exact hM _ | exact hPo _ | exact hTa _ | exact hRo _) (by first | assumption | exact b01_r | exact bz_r | omega | (constructor <;> omega) | exact hM _ | exact hPo _ | exact hTa _ | exact hRo _) (by omega) ?_
  rw [e2]
  first | refine rm_iast0 (pc := 48) (j := 1613 + 72 * t) dX11_turn_48 (by assumption) (by first | assumption | exact b01_r | exact bz_r | omega | (constructor <;> omega) | exact hM _ | exact hPo _ | exact hTa _ | exact hRo _) (by first | assumption | exact b01_r | exact bz_r | omega | (constructor <;> omega) | exact hM _ | exact hPo _ | exact hTa _ | exact hRo _) (by first | assumption | exact b01_r | exact bz_r | omega | (constructor <;> omega) | exact hM _ | exact hPo _ | exact hTa _ | exact hRo _) (by omega) (fun h_48 hB_48 hS_48 => ?_)
  exact K _ hB_48 (((hS_2.trans hS_15).trans hS_30).trans hS_48)
set_option maxHeartbeats 4000000 in
set_option maxRecDepth 100000 in
theorem m_turn {G : mG} {l : Launch} {D : Nat} (hD : 280 ≤ D) {x s : Nat} {f4 f6 f8 f9 f10 f11 f12 f13 f14 f16 f18 : Int} {kp was pool tape pln pap rwd rw : Nat → Int} (hPo : ∀ q, InR (pool q)) {cl : (Nat → Int) → Nat → (Nat → Int) → Prop} {sh : (Nat → Int) → Int → (Nat → Int) → Prop} {t : Nat} (hcl : ∀ (m1 m2 : Nat → Int) (u : Nat) (h : mH), isM h x (mFs x f4 f6 f8 f9 f10 f11 f12 f13 (t : Int) f16 f18 s) m1 kp was pool tape pln pap rwd rw → cl m1 u m2 → RUNM G l D mX11_closes [.ref x, .int (J (u : Int))] h (fun v h' => v = none ∧ isM h' x (mFs x f4 f6 f8 f9 f10 f11 f12 f13 (t : Int) f16 f18 s) m2 kp was pool tape pln pap rwd rw ∧ Same (mBlk x) h h')) (hsh : ∀ (m1 m2 : Nat → Int) (e : Int) (h : mH), isM h x (mFs x f4 f6 f8 f9 f10 f11 f12 f13 (t : Int) f16 f18 s) m1 kp was pool tape pln pap rwd rw → sh m1 e m2 → RUNM G l D mX11_shuts [.ref x, .int (J e)] h (fun v h' => v = none ∧ isM h' x (mFs x f4 f6 f8 f9 f10 f11 f12 f13 (t : Int) f16 f18 s) m2 kp was pool tape pln pap rwd rw ∧ Same (mBlk x) h h')) {m m' : Nat → Int} {h : mH} (hB : isM h x (mFs x f4 f6 f8 f9 f10 f11 f12 f13 f14 f16 f18 s) m kp was pool tape pln pap rwd rw) (hR : turnR pool cl sh m t m') : RUNM G l (D + 5) mX11_turn [.ref x, .int (J (t : Int))] h (fun v h' => v = none ∧ isM h' x (mFs x f4 f6 f8 f9 f10 f11 f12 f13 (t : Int) f16 f18 s) m' kp was pool tape pln pap rwd rw ∧ Same (mBlk x) h h') := by
  obtain ⟨ht, hok, ⟨n, hn, hc⟩, hR⟩ := hR
  obtain ⟨hM, k0, k1, k2, k3, k4, k5, k7⟩ := id hok
  have hB0 := hB
  dsimp only [mFs] at hB
  have e1 : updI m 7 (m 7 + 1) (1612 + 72 * t) = m (1612 + 72 * t) := updI_n (by omega)
  have e2 : updI (updI m 7 (m 7 + 1)) (1612 + 72 * t) (m (1612 + 72 * t) + 1) 7 = m 7 + 1 := (updI_n (by omega)).trans updI_s
  have e3 : turnM m t (1619 + 72 * t) = n := by unfold turnM; rw [updI_n (by omega), updI_n (by omega), updI_n (by omega)]; exact hc
  refine RUNM.of (by decide +kernel) (Nat.le_of_ble_eq_true rfl) ?_
  refine L_turn0 hB0 ht ?_
  intro h1 hB1 hS1
  have hB2 := hB1
  dsimp only [mFs] at hB2
  have fi : RUNM G l (D + 3) mX11_isFine [.ref x, .int (J (t : Int))] h1 (fun v h' => v = some (.int (J (bz (fineV (turnM m t) t)))) ∧ h' = h1) := (m_isFine 0 hB1 hM k0 (by omega) (by omega) (by rw [show (1619 + 72 * (t : Int)).toNat = 1619 + 72 * t by omega, e3]; omega)).deeper (by omega)
  rcases hR with ⟨hf, hR⟩ | ⟨hf, p, E, k, hE, hp, hE2, hp2, hL⟩
  · refine r_aload_n (pc := 49) dX11_turn_49 rfl (by first | rfl | exact isRefV_rf _) ?_
    refine r_iload_n (pc := 50) dX11_turn_50 rfl ?_
    refine r_callV1 (pc := 51) dX11_turn_51 qX11_isFine kX11_189 vX11_isFine (by exact isM.gx (by assumption)) rfl rfl (Nat.le_of_ble_eq_true rfl) (fi.deeper (by omega)) (fun v_51 h_51 q_51 => ?_)
    obtain ⟨rfl, rfl⟩ := q_51
    refine rj_if_ne (pc := 54) (tgt := 64) dX11_turn_54 (by decide) (by first | assumption | exact b01_r | exact bz_r | omega | (constructor <;> omega) | exact hM _ | exact hPo _ | exact hTa _ | exact hRo _) (fun c_54 => ?_) (fun c_54 => ?_)
    · try simp only [b01_0, bz_0, Classical.not_not] at c_54
      rw [hf] at c_54; exact absurd c_54 (by decide)
    · try simp only [b01_0, bz_0, Classical.not_not] at c_54
      refine r_aload_n (pc := 57) dX11_turn_57 rfl (by first | rfl | exact isRefV_rf _) ?_
      refine r_iload_n (pc := 58) dX11_turn_58 rfl ?_
      refine rj_iconst (pc := 59) dX11_turn_59 ?_
      refine r_callV2 (pc := 60) dX11_turn_60 qX11_isOver kX11_192 vX11_isOver (by exact isM.gx (by assumption)) rfl rfl (Nat.le_of_ble_eq_true rfl) ((m_isOver hD hsh hB1 hR).deeper (by omega)) (fun v_60 h_60 q_60 => ?_)
      obtain ⟨rfl, hB_60, S_60⟩ := q_60
      refine r_return (pc := 63) dX11_turn_63 rfl ?_
      exact ⟨rfl, hB_60, hS1.trans S_60⟩
  · have f1 : turnM m t (1617 + 72 * t) = E := by unfold turnM; rw [updI_n (by omega), updI_n (by omega), updI_n (by omega)]; exact hE
    have f2 : turnM m t (1611 + 72 * t) = p := by unfold turnM; rw [updI_n (by omega), updI_n (by omega), updI_n (by omega)]; exact hp
    refine r_aload_n (pc := 49) dX11_turn_49 rfl (by first | rfl | exact isRefV_rf _) ?_
    refine r_iload_n (pc := 50) dX11_turn_50 rfl ?_
    refine r_callV1 (pc := 51) dX11_turn_51 qX11_isFine kX11_189 vX11_isFine (by exact isM.gx (by assumption)) rfl rfl (Nat.le_of_ble_eq_true rfl) (fi.deeper (by omega)) (fun v_51 h_51 q_51 => ?_)
    obtain ⟨rfl, rfl⟩ := q_51
    refine rj_if_ne (pc := 54) (tgt := 64) dX11_turn_54 (by decide) (by first | assumption | exact b01_r | exact bz_r | omega | (constructor <;> omega) | exact hM _ | exact hPo _ | exact hTa _ | exact hRo _) (fun c_54 => ?_) (fun c_54 => ?_)
    · try simp only [b01_0, bz_0, Classical.not_not] at c_54
      refine r_aload_n (pc := 64) dX11_turn_64 rfl (by first | rfl | exact isRefV_rf _) ?_
      refine rm_getf (pc := 65) dX11_turn_65 fX11_11 (by assumption) rfl ?_
      refine r_iload_n (pc := 68) dX11_turn_68 rfl ?_
      refine rj_bipush (pc := 69) dX11_turn_69 (by decide +kernel) ?_
      refine rj_iconst (pc := 71) dX11_turn_71 ?_
      refine r_callS3 (pc := 72) dX11_turn_72 qX11_ofTask kX11_58 sX11_ofTask (Nat.le_of_ble_eq_true rfl) (m_ofTask _) (fun v_72 h_72 q_72 => ?_)
      obtain ⟨rfl, rfl⟩ := q_72
      refine rj_iald (pc := 75) (j := 1617 + 72 * t) dX11_turn_75 (by first | exact isM.g0 (by assumption) | exact isM.g3 (by assumption) | exact isM.g4 (by assumption) | exact isM.g8 (by assumption) | exact isM.g7 (by assumption) | exact isM.g6 (by assumption) | exact isM.g5 (by assumption) | exact isM.g1 (by assumption) | exact isM.g2 (by assumption)) (by first | assumption | exact b01_r | exact bz_r | omega | (constructor <;> omega) | exact hM _ | exact hPo _ | exact hTa _ | exact hRo _) (by first | assumption | exact b01_r | exact bz_r | omega | (constructor <;> omega) | exact hM _ | exact hPo _ | exact hTa _ | exact hRo _) (by first | assumption | exact b01_r | exact bz_r | omega | (constructor <;> omega) | exact hM _ | exact hPo _ | exact hTa _ | exact hRo _) (by omega) ?_
      rw [f1]
      refine r_istore_n (pc := 76) dX11_turn_76 (Nat.le_of_ble_eq_true rfl) ?_
      dsimp only [lsSt, List.set, mLs, mEnt]
      refine r_aload_n (pc := 77) dX11_turn_77 rfl (by first | rfl | exact isRefV_rf _) ?_
      refine rm_getf (pc := 78) dX11_turn_78 fX11_11 (by assumption) rfl ?_
      refine r_iload_n (pc := 81) dX11_turn_81 rfl ?_
      refine rj_iconst (pc := 82) dX11_turn_82 ?_
      refine rj_iconst (pc := 83) dX11_turn_83 ?_
      refine r_callS3 (pc := 84) dX11_turn_84 qX11_ofTask kX11_58 sX11_ofTask (Nat.le_of_ble_eq_true rfl) (m_ofTask _) (fun v_84 h_84 q_84 => ?_)
      obtain ⟨rfl, rfl⟩ := q_84
      refine rj_iald (pc := 87) (j := 1611 + 72 * t) dX11_turn_87 (by first | exact isM.g0 (by assumption) | exact isM.g3 (by assumption) | exact isM.g4 (by assumption) | exact isM.g8 (by assumption) | exact isM.g7 (by assumption) | exact isM.g6 (by assumption) | exact isM.g5 (by assumption) | exact isM.g1 (by assumption) | exact isM.g2 (by assumption)) (by first | assumption | exact b01_r | exact bz_r | omega | (constructor <;> omega) | exact hM _ | exact hPo _ | exact hTa _ | exact hRo _) (by first | assumption | exact b01_r | exact bz_r | omega | (constructor <;> omega) | exact hM _ | exact hPo _ | exact hTa _ | exact hRo _) (by first | assumption | exact b01_r | exact bz_r | omega | (constructor <;> omega) | exact hM _ | exact hPo _ | exact hTa _ | exact hRo _) (by omega) ?_
      rw [f2]
      refine r_istore_n (pc := 88) dX11_turn_88 (Nat.le_of_ble_eq_true rfl) ?_
      dsimp only [lsSt, List.set, mLs, mEnt]
      refine rj_iconst (pc := 89) dX11_turn_89 ?_
      refine r_istore (pc := 90) dX11_turn_90 (Nat.le_of_ble_eq_true rfl) ?_
      dsimp only [lsSt, List.set, mLs, mEnt]
      exact ((L_turn hD hPo hcl hsh ht hE2 k _ p _ _ hB1 hp2 hL).deeper (by omega)).mono (fun v h' q => ⟨q.1, q.2.1, hS1.trans q.2.2⟩)
    · try simp only [b01_0, bz_0, Classical.not_not] at c_54
      rw [hf] at c_54; exact absurd c_54 (by decide)
/-- which task has the next turn -/
def nextV (m : Nat → Int) : Int := nxL m (m 3).toNat 0 (-5)
def tickR (pool : Nat → Int) (m : Nat → Int) (m' : Nat → Int) : Prop :=
  mOk m ∧ (∀ t : Nat, (t : Int) < m 3 → -99 ≤ m (1609 + 72 * t) ∧ m (1609 + 72 * t) ≤ 99) ∧ ((nextV m < 0 ∧ m' = m) ∨ (0 ≤ nextV m ∧ turnR pool (closesR pool (nextV m) 91) (shutsR pool (nextV m) 61) m (nextV m).toNat m'))
theorem nxL_v {m : Nat → Int} : ∀ (n t : Nat) (f : Int), (f = -5 ∨ (0 ≤ f ∧ f < t)) → (nxL m n t f = -5 ∨ (0 ≤ nxL m n t f ∧ nxL m n t f < t + n))
  | 0, t, f, h => by unfold nxL; omega
  | n + 1, t, f, h => by
    unfold nxL
    have := nxL_v (m := m) n (t + 1) (if readyB m t = true ∧ (f < 0 ∨ aheadP m t f.toNat) then (t : Int) else f) (by split <;> omega)
    omega
theorem nextV_r {m : Nat → Int} (hok : mOk m) : nextV m = -5 ∨ (0 ≤ nextV m ∧ nextV m < m 3) := by
  have k3 := hok.2.2.2.2.1
  have := nxL_v (m := m) (m 3).toNat 0 (-5) (Or.inl rfl)
  unfold nextV
  omega
def sinkV (m : Nat → Int) (f14 : Int) : Int := if 0 ≤ nextV m then nextV m else f14
set_option maxHeartbeats 4000000 in
set_option maxRecDepth 100000 in
theorem m_tick {G : mG} {l : Launch} {x s : Nat} {f4 f6 f8 f9 f10 f11 f12 f13 f14 f16 f18 : Int} {kp was pool tape pln pap rwd rw : Nat → Int} (hPo : ∀ q, InR (pool q)) {m m' : Nat → Int} {h : mH} (hB : isM h x (mFs x f4 f6 f8 f9 f10 f11 f12 f13 f14 f16 f18 s) m kp was pool tape pln pap rwd rw) (hR : tickR pool m m') : RUNM G l 400 mX11_tick [.ref x] h (fun v h' => v = some (.int (J (nextV m))) ∧ isM h' x (mFs x f4 f6 f8 f9 f10 f11 f12 f13 (sinkV m f14) f16 f18 s) m' kp was pool tape pln pap rwd rw ∧ Same (mBlk x) h h') := by
  obtain ⟨hok, hP, hR⟩ := hR
  obtain ⟨hM, k0, k1, k2, k3, k4, k5, k7⟩ := id hok
  have rn := nextV_r hok
  have hB0 := hB
  dsimp only [mFs] at hB
  have fx := m_next (G := G) (l := l) 0 hB0 hM (N := (m 3).toNat) (by omega) (by omega) (fun t ht => hP t (by omega))
  rw [show nxL m (m 3).toNat 0 (-5) = nextV m from rfl] at fx
  refine RUNM.of (by decide +kernel) (Nat.le_of_ble_eq_true rfl) ?_
  rcases hR with ⟨hn, rfl⟩ | ⟨hn, hR⟩
  · rw [show sinkV m' f14 = f14 from if_neg (by omega)]
    refine r_aload_n (pc := 0) dX11_tick_0 rfl (by first | rfl | exact isRefV_rf _) ?_
    refine r_callV0 (pc := 1) dX11_tick_1 qX11_next kX11_205 vX11_next (by exact isM.gx (by assumption)) rfl rfl (Nat.le_of_ble_eq_true rfl) (fx.deeper (by omega)) (fun v_1 h_1 q_1 => ?_)
    obtain ⟨rfl, rfl⟩ := q_1
    refine r_istore_n (pc := 4) dX11_tick_4 (Nat.le_of_ble_eq_true rfl) ?_
    dsimp only [lsSt, List.set, mLs, mEnt]
    refine r_iload_n (pc := 5) dX11_tick_5 rfl ?_
    refine rj_if_lt (pc := 6) (tgt := 14) dX11_tick_6 (by decide) (by first | assumption | exact b01_r | exact bz_r | omega | (constructor <;> omega) | exact hM _ | exact hPo _ | exact hTa _ | exact hRo _) (fun c_6 => ?_) (fun c_6 => ?_)
    · refine r_iload_n (pc := 14) dX11_tick_14 rfl ?_
      refine r_ireturn (pc := 15) .int dX11_tick_15 rfl (by first | rfl | assumption) ?_
      exact ⟨rfl, hB0, Same.refl⟩
    · exfalso; omega
  · rw [show sinkV m f14 = nextV m from if_pos hn]
    have ht : (((nextV m).toNat : Nat) : Int) = nextV m := by omega
    refine r_aload_n (pc := 0) dX11_tick_0 rfl (by first | rfl | exact isRefV_rf _) ?_
    refine r_callV0 (pc := 1) dX11_tick_1 qX11_next kX11_205 vX11_next (by exact isM.gx (by assumption)) rfl rfl (Nat.le_of_ble_eq_true rfl) (fx.deeper (by omega)) (fun v_1 h_1 q_1 => ?_)
    obtain ⟨rfl, rfl⟩ := q_1
    refine r_istore_n (pc := 4) dX11_tick_4 (Nat.le_of_ble_eq_true rfl) ?_
    dsimp only [lsSt, List.set, mLs, mEnt]
    refine r_iload_n (pc := 5) dX11_tick_5 rfl ?_
    refine rj_if_lt (pc := 6) (tgt := 14) dX11_tick_6 (by decide) (by first | assumption | exact b01_r | exact bz_r | omega | (constructor <;> omega) | exact hM _ | exact hPo _ | exact hTa _ | exact hRo _) (fun c_6 => ?_) (fun c_6 => ?_)
    · exfalso; omega
    · refine r_aload_n (pc := 9) dX11_tick_9 rfl (by first | rfl | exact isRefV_rf _) ?_
      refine r_iload_n (pc := 10) dX11_tick_10 rfl ?_
      refine r_callV1 (pc := 11) dX11_tick_11 qX11_turn kX11_208 vX11_turn (by exact isM.gx (by assumption)) rfl rfl (Nat.le_of_ble_eq_true rfl) (by have y := m_turn (G := G) (l := l) (D := 380) (by omega) (t := (nextV m).toNat) hPo (fun m1 m2 t h z1 z2 => by rw [ht] at z1 ⊢; exact (m_closes hPo ⟨by omega, by omega⟩ 91 m1 m2 t h z1 z2).deeper (by omega)) (fun m1 m2 e h z1 z2 => by rw [ht] at z1 ⊢; exact (m_shuts hPo ⟨by omega, by omega⟩ 61 m1 m2 e h z1 z2).deeper (by omega)) hB0 hR; rw [ht] at y; exact y.deeper (by omega)) (fun v_11 h_11 q_11 => ?_)
      obtain ⟨rfl, hB_11, S_11⟩ := q_11
      refine r_iload_n (pc := 14) dX11_tick_14 rfl ?_
      refine r_ireturn (pc := 15) .int dX11_tick_15 rfl (by first | rfl | assumption) ?_
      exact ⟨rfl, hB_11, S_11⟩
/-- so many ticks at most; how many there were -/
def ticksR (pool : Nat → Int) : Nat → (Nat → Int) → Nat → (Nat → Int) → Prop
  | 0, m, k, m' => k = 0 ∧ m' = m
  | n + 1, m, k, m' => ∃ m1, tickR pool m m1 ∧ ((nextV m < 0 ∧ k = 0 ∧ m' = m1) ∨ (0 ≤ nextV m ∧ ∃ k1, k = k1 + 1 ∧ ticksR pool n m1 k1 m'))
set_option maxHeartbeats 4000000 in
set_option maxRecDepth 100000 in
theorem L_ticks {G : mG} {l : Launch} {x s : Nat} {f4 f6 f8 f9 f10 f11 f12 f13 f16 f18 : Int} {kp was pool tape pln pap rwd rw : Nat → Int} (hPo : ∀ q, InR (pool q)) {B : Nat} (hB1 : B ≤ 100) {m' : Nat → Int} : ∀ (n i k : Nat) (m : Nat → Int) (f14 : Int) (h : mH), i + n = B → InR f14 → isM h x (mFs x f4 f6 f8 f9 f10 f11 f12 f13 f14 f16 f18 s) m kp was pool tape pln pap rwd rw → ticksR pool n m k m' → RUN G l 401 mX11_ticks 2 [some (.ref x), some (.int (J (B : Int))), some (.int (J (i : Int)))] [] h (fun v h' => v = some (.int (J ((i + k : Nat) : Int))) ∧ (∃ g14, InR g14 ∧ isM h' x (mFs x f4 f6 f8 f9 f10 f11 f12 f13 g14 f16 f18 s) m' kp was pool tape pln pap rwd rw) ∧ Same (mBlk x) h h') := by
  intro n
  induction n with
  | zero =>
    intro i k m f14 h hi h14 hB hR
    obtain ⟨rfl, rfl⟩ := hR
    have hB0 := hB
    refine r_iload_n (pc := 2) dX11_ticks_2 rfl ?_
    refine r_iload_n (pc := 3) dX11_ticks_3 rfl ?_
    refine rj_icmp_ge (pc := 4) (tgt := 20) dX11_ticks_4 (by decide) (by first | assumption | exact b01_r | exact bz_r | omega | (constructor <;> omega) | exact hM _ | exact hPo _ | exact hTa _ | exact hRo _) (by first | assumption | exact b01_r | exact bz_r | omega | (constructor <;> omega) | exact hM _ | exact hPo _ | exact hTa _ | exact hRo _) (fun c_4 => ?_) (fun c_4 => ?_)
    · refine r_iload_n (pc := 20) dX11_ticks_20 rfl ?_
      refine r_ireturn (pc := 21) .int dX11_ticks_21 rfl (by first | rfl | assumption) ?_
      exact ⟨by rw [Nat.add_zero], ⟨_, h14, hB0⟩, Same.refl⟩
    · exfalso; omega
  | succ n ih =>
    intro i k m f14 h hi h14 hB hR
    obtain ⟨m1, ht, hR⟩ := hR
    have rn := nextV_r ht.1
    have k3 := ht.1.2.2.2.2.1
    have hB0 := hB
    have g14 : InR (sinkV m f14) := by unfold sinkV; split; exact ⟨by omega, by omega⟩; exact h14
    rcases hR with ⟨hn, rfl, rfl⟩ | ⟨hn, k1, rfl, hR⟩
    · refine r_iload_n (pc := 2) dX11_ticks_2 rfl ?_
      refine r_iload_n (pc := 3) dX11_ticks_3 rfl ?_
      refine rj_icmp_ge (pc := 4) (tgt := 20) dX11_ticks_4 (by decide) (by first | assumption | exact b01_r | exact bz_r | omega | (constructor <;> omega) | exact hM _ | exact hPo _ | exact hTa _ | exact hRo _) (by first | assumption | exact b01_r | exact bz_r | omega | (constructor <;> omega) | exact hM _ | exact hPo _ | exact hTa _ | exact hRo _) (fun c_4 => ?_) (fun c_4 => ?_)
      · exfalso; omega
      · refine r_aload_n (pc := 7) dX11_ticks_7 rfl (by first | rfl | exact isRefV_rf _) ?_
        refine r_callV0 (pc := 8) dX11_ticks_8 qX11_tick kX11_211 vX11_tick (by exact isM.gx (by assumption)) rfl rfl (Nat.le_of_ble_eq_true rfl) (m_tick hPo hB0 ht) (fun v_8 h_8 q_8 => ?_)
        obtain ⟨rfl, hB_8, S_8⟩ := q_8
        refine rj_if_lt (pc := 11) (tgt := 20) dX11_ticks_11 (by decide) (by first | assumption | exact b01_r | exact bz_r | omega | (constructor <;> omega) | exact hM _ | exact hPo _ | exact hTa _ | exact hRo _) (fun c_11 => ?_) (fun c_11 => ?_)
        · refine r_iload_n (pc := 20) dX11_ticks_20 rfl ?_
          refine r_ireturn (pc := 21) .int dX11_ticks_21 rfl (by first | rfl | assumption) ?_
          exact ⟨by rw [Nat.add_zero], ⟨_, g14, hB_8⟩, S_8⟩
        · exfalso; omega
    · refine r_iload_n (pc := 2) dX11_ticks_2 rfl ?_
      refine r_iload_n (pc := 3) dX11_ticks_3 rfl ?_
      refine rj_icmp_ge (pc := 4) (tgt := 20) dX11_ticks_4 (by decide) (by first | assumption | exact b01_r | exact bz_r | omega | (constructor <;> omega) | exact hM _ | exact hPo _ | exact hTa _ | exact hRo _) (by first | assumption | exact b01_r | exact bz_r | omega | (constructor <;> omega) | exact hM _ | exact hPo _ | exact hTa _ | exact hRo _) (fun c_4 => ?_) (fun c_4 => ?_)
      · exfalso; omega
      · refine r_aload_n (pc := 7) dX11_ticks_7 rfl (by first | rfl | exact isRefV_rf _) ?_
        refine r_callV0 (pc := 8) dX11_ticks_8 qX11_tick kX11_211 vX11_tick (by exact isM.gx (by assumption)) rfl rfl (Nat.le_of_ble_eq_true rfl) (m_tick hPo hB0 ht) (fun v_8 h_8 q_8 => ?_)
        obtain ⟨rfl, hB_8, S_8⟩ := q_8
        refine rj_if_lt (pc := 11) (tgt := 20) dX11_ticks_11 (by decide) (by first | assumption | exact b01_r | exact bz_r | omega | (constructor <;> omega) | exact hM _ | exact hPo _ | exact hTa _ | exact hRo _) (fun c_11 => ?_) (fun c_11 => ?_)
        · exfalso; omega
        · refine rj_iinc (pc := 14) dX11_ticks_14 (Nat.le_of_ble_eq_true rfl) rfl ?_
          dsimp only [lsSt, List.set, mLs, mEnt]
          refine r_goto (pc := 17) (tgt := 2) dX11_ticks_17 (by decide) ?_
          have y := ih (i + 1) k1 m1 _ _ (by omega) g14 hB_8 hR
          rw [show ((i : Int) + 1) = ((i + 1 : Nat) : Int) by omega]
          exact y.mono (fun v h' q => ⟨by rw [q.1]; congr 3; omega, q.2.1, S_8.trans q.2.2⟩)
set_option maxHeartbeats 4000000 in
set_option maxRecDepth 100000 in
theorem m_ticks {G : mG} {l : Launch} {x s : Nat} {f4 f6 f8 f9 f10 f11 f12 f13 f14 f16 f18 : Int} {kp was pool tape pln pap rwd rw : Nat → Int} (hPo : ∀ q, InR (pool q)) (h14 : InR f14) {B k : Nat} (hB1 : B ≤ 100) {m m' : Nat → Int} {h : mH} (hB : isM h x (mFs x f4 f6 f8 f9 f10 f11 f12 f13 f14 f16 f18 s) m kp was pool tape pln pap rwd rw) (hR : ticksR pool B m k m') : RUNM G l 401 mX11_ticks [.ref x, .int (J (B : Int))] h (fun v h' => v = some (.int (J (k : Int))) ∧ (∃ g14, InR g14 ∧ isM h' x (mFs x f4 f6 f8 f9 f10 f11 f12 f13 g14 f16 f18 s) m' kp was pool tape pln pap rwd rw) ∧ Same (mBlk x) h h') := by
  refine RUNM.of (by decide +kernel) (Nat.le_of_ble_eq_true rfl) ?_
  refine rj_iconst (pc := 0) dX11_ticks_0 ?_
  refine r_istore_n (pc := 1) dX11_ticks_1 (Nat.le_of_ble_eq_true rfl) ?_
  dsimp only [lsSt, List.set, mLs, mEnt]
  have y := L_ticks (G := G) (l := l) hPo hB1 B 0 k m f14 h (by omega) h14 hB hR
  exact y.mono (fun v h' q => ⟨by rw [q.1, Nat.zero_add], q.2⟩)
set_option maxHeartbeats 4000000 in
set_option maxRecDepth 100000 in
theorem m_run {G : mG} {l : Launch} {x s : Nat} {f4 f6 f8 f9 f10 f11 f12 f13 f14 f16 f18 : Int} {kp was pool tape pln pap rwd rw : Nat → Int} (hPo : ∀ q, InR (pool q)) (h14 : InR f14) {b : Int} {k : Nat} (hb : InR b) {m m' : Nat → Int} {h : mH} (hB : isM h x (mFs x f4 f6 f8 f9 f10 f11 f12 f13 f14 f16 f18 s) m kp was pool tape pln pap rwd rw) (hR : (0 ≤ b ∧ b ≤ 100) → ticksR pool b.toNat m k m') : RUNM G l 402 mX11_run [.ref x, .int (J b)] h (fun v h' => (¬ (0 ≤ b ∧ b ≤ 100) ∧ v = some (.int (J (-2))) ∧ h' = h) ∨ ((0 ≤ b ∧ b ≤ 100) ∧ v = some (.int (J (k : Int))) ∧ (∃ g14, InR g14 ∧ isM h' x (mFs x f4 f6 f8 f9 f10 f11 f12 f13 g14 f16 f18 s) m' kp was pool tape pln pap rwd rw) ∧ Same (mBlk x) h h')) := by
  refine RUNM.of (by decide +kernel) (Nat.le_of_ble_eq_true rfl) ?_
  refine r_iload_n (pc := 0) dX11_run_0 rfl ?_
  refine rj_iconst (pc := 1) dX11_run_1 ?_
  refine rj_bipush (pc := 2) dX11_run_2 (by decide +kernel) ?_
  refine r_callS3 (pc := 4) dX11_run_4 qX11_isIn kX11_46 sX11_isIn (Nat.le_of_ble_eq_true rfl) ((m_isIn 0 hb (by decide) (by decide)).deeper (by omega)) (fun v_4 h_4 q_4 => ?_)
  obtain ⟨rfl, rfl⟩ := q_4
  refine rj_if_eq (pc := 7) (tgt := 18) dX11_run_7 (by decide) (by first | assumption | exact b01_r | exact bz_r | omega | (constructor <;> omega) | exact hM _ | exact hPo _ | exact hTa _ | exact hRo _) (fun c_7 => ?_) (fun c_7 => ?_)
  · try simp only [b01_0, bz_0, Classical.not_not] at c_7
    refine rj_bipush (pc := 18) dX11_run_18 (by decide +kernel) ?_
    refine r_ireturn (pc := 20) .int dX11_run_20 rfl (by first | rfl | assumption) ?_
    first | exact Or.inr ⟨c_7, rfl, hB_12, S_12⟩ | exact Or.inl ⟨c_7, rfl, rfl⟩
  · try simp only [b01_0, bz_0, Classical.not_not] at c_7
    refine r_aload_n (pc := 10) dX11_run_10 rfl (by first | rfl | exact isRefV_rf _) ?_
    refine r_iload_n (pc := 11) dX11_run_11 rfl ?_
    refine r_callV1 (pc := 12) dX11_run_12 qX11_ticks kX11_214 vX11_ticks (by exact isM.gx (by assumption)) rfl rfl (Nat.le_of_ble_eq_true rfl) (by have y := m_ticks (G := G) (l := l) hPo h14 (B := b.toNat) (k := k) (by omega) hB (hR c_7); rw [show ((b.toNat : Nat) : Int) = b by omega] at y; exact y) (fun v_12 h_12 q_12 => ?_)
    obtain ⟨rfl, hB_12, S_12⟩ := q_12
    refine r_goto (pc := 15) (tgt := 20) dX11_run_15 (by decide) ?_
    refine r_ireturn (pc := 20) .int dX11_run_20 rfl (by first | rfl | assumption) ?_
    first | exact Or.inr ⟨c_7, rfl, hB_12, S_12⟩ | exact Or.inl ⟨c_7, rfl, rfl⟩
