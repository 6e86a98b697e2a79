section mg_71
set_option maxHeartbeats 4000000 in
set_option maxRecDepth 100000 in
theorem m_doesIn {G : mG} {l : Launch} {D : Nat} (hD : 280 ≤ D) {x s : Nat} {f4 f6 f8 f9 f10 f11 f12 f13 f14 f16 f18 : Int} {kp was pool tape pln pap rwd rw : Nat → Int} (hPo : ∀ q, InR (pool q)) {cl : (Nat → Int) → Nat → (Nat → Int) → Prop} {sh : (Nat → Int) → Int → (Nat → Int) → Prop} (hcl : ∀ (m1 m2 : Nat → Int) (t : Nat) (h : mH), isM h x (mFs x f4 f6 f8 f9 f10 f11 f12 f13 f14 f16 f18 s) m1 kp was pool tape pln pap rwd rw → cl m1 t m2 → RUNM G l D mX11_closes [.ref x, .int (J (t : Int))] h (fun v h' => v = none ∧ isM h' x (mFs x f4 f6 f8 f9 f10 f11 f12 f13 f14 f16 f18 s) m2 kp was pool tape pln pap rwd rw ∧ Same (mBlk x) h h')) (hsh : ∀ (m1 m2 : Nat → Int) (e : Int) (h : mH), isM h x (mFs x f4 f6 f8 f9 f10 f11 f12 f13 f14 f16 f18 s) m1 kp was pool tape pln pap rwd rw → sh m1 e m2 → RUNM G l D mX11_shuts [.ref x, .int (J e)] h (fun v h' => v = none ∧ isM h' x (mFs x f4 f6 f8 f9 f10 f11 f12 f13 f14 f16 f18 s) m2 kp was pool tape pln pap rwd rw ∧ Same (mBlk x) h h')) {m m' : Nat → Int} {t p : Nat} {f : Int} {h : mH} (hB : isM h x (mFs x f4 f6 f8 f9 f10 f11 f12 f13 f14 f16 f18 s) m kp was pool tape pln pap rwd rw) (hR : doesInR pool cl sh m t p f m') : RUNM G l (D + 3) mX11_doesIn [.ref x, .int (J (t : Int)), .int (J (p : Int))] h (fun v h' => v = some (.int (J f)) ∧ isM h' x (mFs x f4 f6 f8 f9 f10 f11 f12 f13 f14 f16 f18 s) m' kp was pool tape pln pap rwd rw ∧ Same (mBlk x) h h') := by
  obtain ⟨hok, ht, hp, n, hn, hc, hR⟩ := hR
  obtain ⟨hM, k0, k1, k2, k3, k4, k5, k7⟩ := id hok
  have hB0 := hB
  have rp := hPo p
  have r0 := hM 0
  have rs := hM (1619 + 72 * t + n)
  have hd : ∀ (f : Int) (m' : Nat → Int), doesR pool cl m p (m (1619 + 72 * t + n)) f m' → RUNM G l (D + 2) mX11_does [.ref x, .int (J (p : Int)), .int (J (m (1619 + 72 * t + n)))] h (fun v h' => v = some (.int (J f)) ∧ isM h' x (mFs x f4 f6 f8 f9 f10 f11 f12 f13 f14 f16 f18 s) m' kp was pool tape pln pap rwd rw ∧ Same (mBlk x) h h') := fun f m' q => m_does (by omega) hPo hcl hB0 q
  dsimp only [mFs] at hB
  refine RUNM.of (by decide +kernel) (Nat.le_of_ble_eq_true rfl) ?_
  rcases hR with ⟨hk, hR⟩ | ⟨hk, rfl, hR⟩ | ⟨hk, hk2, hR⟩
  · rcases hR with ⟨h6, rfl, rfl⟩ | ⟨h6, ho, rfl, rfl⟩ | ⟨h6, ho, rfl, rfl⟩
    · refine r_iload_n (pc := 0) dX11_doesIn_0 rfl ?_
      refine rj_bipush (pc := 1) dX11_doesIn_1 (by decide +kernel) ?_
      refine r_aload_n (pc := 3) dX11_doesIn_3 rfl (by first | rfl | exact isRefV_rf _) ?_
      refine rm_getf (pc := 4) dX11_doesIn_4 fX11_11 (by assumption) rfl ?_
      refine r_iload_n (pc := 7) dX11_doesIn_7 rfl ?_
      refine rj_bipush (pc := 8) dX11_doesIn_8 (by decide +kernel) ?_
      refine rj_iconst (pc := 10) dX11_doesIn_10 ?_
      refine r_callS3 (pc := 11) dX11_doesIn_11 qX11_ofTask kX11_58 sX11_ofTask (Nat.le_of_ble_eq_true rfl) (m_ofTask _) (fun v_11 h_11 q_11 => ?_)
      obtain ⟨rfl, rfl⟩ := q_11
      refine rj_iald (pc := 14) (j := 1619 + 72 * t) dX11_doesIn_14 (by first | exact isM.g0 (by assumption) | exact isM.g3 (by assumption) | exact isM.g4 (by assumption) | exact isM.g8 (by assumption) | exact isM.g7 (by assumption) | exact isM.g6 (by assumption) | exact isM.g5 (by assumption) | exact isM.g1 (by assumption) | exact isM.g2 (by assumption)) (by first | assumption | exact b01_r | exact bz_r | omega | (constructor <;> omega) | exact hM _ | exact hPo _ | exact hTa _ | exact hRo _) (by first | assumption | exact b01_r | exact bz_r | omega | (constructor <;> omega) | exact hM _ | exact hPo _ | exact hTa _ | exact hRo _) (by first | assumption | exact b01_r | exact bz_r | omega | (constructor <;> omega) | exact hM _ | exact hPo _ | exact hTa _ | exact hRo _) (by omega) ?_
      rw [hc]
      refine r_callS3 (pc := 15) dX11_doesIn_15 qX11_ofTask kX11_58 sX11_ofTask (Nat.le_of_ble_eq_true rfl) (m_ofTask _) (fun v_15 h_15 q_15 => ?_)
      obtain ⟨rfl, rfl⟩ := q_15
      rw [show (1608 + 72 * (t : Int) + 11 + (n : Int)) = ((1619 + 72 * t + n : Nat) : Int) by omega]
      refine r_istore_n (pc := 18) dX11_doesIn_18 (Nat.le_of_ble_eq_true rfl) ?_
      dsimp only [lsSt, List.set, mLs, mEnt]
      refine r_aload_n (pc := 19) dX11_doesIn_19 rfl (by first | rfl | exact isRefV_rf _) ?_
      refine rm_getf (pc := 20) dX11_doesIn_20 fX11_11 (by assumption) rfl ?_
      refine r_iload_n (pc := 23) dX11_doesIn_23 rfl ?_
      refine rj_iald (pc := 24) (j := 1619 + 72 * t + n) dX11_doesIn_24 (by first | exact isM.g0 (by assumption) | exact isM.g3 (by assumption) | exact isM.g4 (by assumption) | exact isM.g8 (by assumption) | exact isM.g7 (by assumption) | exact isM.g6 (by assumption) | exact isM.g5 (by assumption) | exact isM.g1 (by assumption) | exact isM.g2 (by assumption)) (by first | assumption | exact b01_r | exact bz_r | omega | (constructor <;> omega) | exact hM _ | exact hPo _ | exact hTa _ | exact hRo _) (by first | assumption | exact b01_r | exact bz_r | omega | (constructor <;> omega) | exact hM _ | exact hPo _ | exact hTa _ | exact hRo _) (by first | assumption | exact b01_r | exact bz_r | omega | (constructor <;> omega) | exact hM _ | exact hPo _ | exact hTa _ | exact hRo _) (by omega) ?_
      refine r_istore (pc := 25) dX11_doesIn_25 (Nat.le_of_ble_eq_true rfl) ?_
      dsimp only [lsSt, List.set, mLs, mEnt]
      refine r_aload_n (pc := 27) dX11_doesIn_27 rfl (by first | rfl | exact isRefV_rf _) ?_
      refine rm_getf (pc := 28) dX11_doesIn_28 fX11_21 (by assumption) rfl ?_
      refine r_iload_n (pc := 31) dX11_doesIn_31 rfl ?_
      refine rj_iald (pc := 32) (j := p) dX11_doesIn_32 (by first | exact isM.g0 (by assumption) | exact isM.g3 (by assumption) | exact isM.g4 (by assumption) | exact isM.g8 (by assumption) | exact isM.g7 (by assumption) | exact isM.g6 (by assumption) | exact isM.g5 (by assumption) | exact isM.g1 (by assumption) | exact isM.g2 (by assumption)) (by first | assumption | exact b01_r | exact bz_r | omega | (constructor <;> omega) | exact hM _ | exact hPo _ | exact hTa _ | exact hRo _) (by first | assumption | exact b01_r | exact bz_r | omega | (constructor <;> omega) | exact hM _ | exact hPo _ | exact hTa _ | exact hRo _) (by first | assumption | exact b01_r | exact bz_r | omega | (constructor <;> omega) | exact hM _ | exact hPo _ | exact hTa _ | exact hRo _) (by omega) ?_
      refine rj_bipush (pc := 33) dX11_doesIn_33 (by decide +kernel) ?_
      refine rj_icmp_ne (pc := 35) (tgt := 97) dX11_doesIn_35 (by decide) (by first | assumption | exact b01_r | exact bz_r | omega | (constructor <;> omega) | exact hM _ | exact hPo _ | exact hTa _ | exact hRo _) (by first | assumption | exact b01_r | exact bz_r | omega | (constructor <;> omega) | exact hM _ | exact hPo _ | exact hTa _ | exact hRo _) (fun c_35 => ?_) (fun c_35 => ?_)
      · exfalso; omega
      · refine r_aload_n (pc := 38) dX11_doesIn_38 rfl (by first | rfl | exact isRefV_rf _) ?_
        refine rm_getf (pc := 39) dX11_doesIn_39 fX11_11 (by assumption) rfl ?_
        refine rj_iconst (pc := 42) dX11_doesIn_42 ?_
        refine rj_iald (pc := 43) (j := 0) dX11_doesIn_43 (by first | exact isM.g0 (by assumption) | exact isM.g3 (by assumption) | exact isM.g4 (by assumption) | exact isM.g8 (by assumption) | exact isM.g7 (by assumption) | exact isM.g6 (by assumption) | exact isM.g5 (by assumption) | exact isM.g1 (by assumption) | exact isM.g2 (by assumption)) (by first | assumption | exact b01_r | exact bz_r | omega | (constructor <;> omega) | exact hM _ | exact hPo _ | exact hTa _ | exact hRo _) (by first | assumption | exact b01_r | exact bz_r | omega | (constructor <;> omega) | exact hM _ | exact hPo _ | exact hTa _ | exact hRo _) (by first | assumption | exact b01_r | exact bz_r | omega | (constructor <;> omega) | exact hM _ | exact hPo _ | exact hTa _ | exact hRo _) rfl ?_
        refine rj_bipush (pc := 44) dX11_doesIn_44 (by decide +kernel) ?_
        refine rj_icmp_ne (pc := 46) (tgt := 52) dX11_doesIn_46 (by decide) (by first | assumption | exact b01_r | exact bz_r | omega | (constructor <;> omega) | exact hM _ | exact hPo _ | exact hTa _ | exact hRo _) (by first | assumption | exact b01_r | exact bz_r | omega | (constructor <;> omega) | exact hM _ | exact hPo _ | exact hTa _ | exact hRo _) (fun c_46 => ?_) (fun c_46 => ?_)
        · exact absurd h6 c_46
        · refine rj_bipush (pc := 49) dX11_doesIn_49 (by decide +kernel) ?_
          refine r_ireturn (pc := 51) .int dX11_doesIn_51 rfl (by first | rfl | assumption) ?_
          exact ⟨rfl, hB0, Same.refl⟩
    · refine r_iload_n (pc := 0) dX11_doesIn_0 rfl ?_
      refine rj_bipush (pc := 1) dX11_doesIn_1 (by decide +kernel) ?_
      refine r_aload_n (pc := 3) dX11_doesIn_3 rfl (by first | rfl | exact isRefV_rf _) ?_
      refine rm_getf (pc := 4) dX11_doesIn_4 fX11_11 (by assumption) rfl ?_
      refine r_iload_n (pc := 7) dX11_doesIn_7 rfl ?_
      refine rj_bipush (pc := 8) dX11_doesIn_8 (by decide +kernel) ?_
      refine rj_iconst (pc := 10) dX11_doesIn_10 ?_
      refine r_callS3 (pc := 11) dX11_doesIn_11 qX11_ofTask kX11_58 sX11_ofTask (Nat.le_of_ble_eq_true rfl) (m_ofTask _) (fun v_11 h_11 q_11 => ?_)
      obtain ⟨rfl, rfl⟩ := q_11
      refine rj_iald (pc := 14) (j := 1619 + 72 * t) dX11_doesIn_14 (by first | exact isM.g0 (by assumption) | exact isM.g3 (by assumption) | exact isM.g4 (by assumption) | exact isM.g8 (by assumption) | exact isM.g7 (by assumption) | exact isM.g6 (by assumption) | exact isM.g5 (by assumption) | exact isM.g1 (by assumption) | exact isM.g2 (by assumption)) (by first | assumption | exact b01_r | exact bz_r | omega | (constructor <;> omega) | exact hM _ | exact hPo _ | exact hTa _ | exact hRo _) (by first | assumption | exact b01_r | exact bz_r | omega | (constructor <;> omega) | exact hM _ | exact hPo _ | exact hTa _ | exact hRo _) (by first | assumption | exact b01_r | exact bz_r | omega | (constructor <;> omega) | exact hM _ | exact hPo _ | exact hTa _ | exact hRo _) (by omega) ?_
      rw [hc]
      refine r_callS3 (pc := 15) dX11_doesIn_15 qX11_ofTask kX11_58 sX11_ofTask (Nat.le_of_ble_eq_true rfl) (m_ofTask _) (fun v_15 h_15 q_15 => ?_)
      obtain ⟨rfl, rfl⟩ := q_15
      rw [show (1608 + 72 * (t : Int) + 11 + (n : Int)) = ((1619 + 72 * t + n : Nat) : Int) by omega]
      refine r_istore_n (pc := 18) dX11_doesIn_18 (Nat.le_of_ble_eq_true rfl) ?_
      dsimp only [lsSt, List.set, mLs, mEnt]
      refine r_aload_n (pc := 19) dX11_doesIn_19 rfl (by first | rfl | exact isRefV_rf _) ?_
      refine rm_getf (pc := 20) dX11_doesIn_20 fX11_11 (by assumption) rfl ?_
      refine r_iload_n (pc := 23) dX11_doesIn_23 rfl ?_
      refine rj_iald (pc := 24) (j := 1619 + 72 * t + n) dX11_doesIn_24 (by first | exact isM.g0 (by assumption) | exact isM.g3 (by assumption) | exact isM.g4 (by assumption) | exact isM.g8 (by assumption) | exact isM.g7 (by assumption) | exact isM.g6 (by assumption) | exact isM.g5 (by assumption) | exact isM.g1 (by assumption) | exact isM.g2 (by assumption)) (by first | assumption | exact b01_r | exact bz_r | omega | (constructor <;> omega) | exact hM _ | exact hPo _ | exact hTa _ | exact hRo _) (by first | assumption | exact b01_r | exact bz_r | omega | (constructor <;> omega) | exact hM _ | exact hPo _ | exact hTa _ | exact hRo _) (by first | assumption | exact b01_r | exact bz_r | omega | (constructor <;> omega) | exact hM _ | exact hPo _ | exact hTa _ | exact hRo _) (by omega) ?_
      refine r_istore (pc := 25) dX11_doesIn_25 (Nat.le_of_ble_eq_true rfl) ?_
      dsimp only [lsSt, List.set, mLs, mEnt]
      refine r_aload_n (pc := 27) dX11_doesIn_27 rfl (by first | rfl | exact isRefV_rf _) ?_
      refine rm_getf (pc := 28) dX11_doesIn_28 fX11_21 (by assumption) rfl ?_
      refine r_iload_n (pc := 31) dX11_doesIn_31 rfl ?_
      refine rj_iald (pc := 32) (j := p) dX11_doesIn_32 (by first | exact isM.g0 (by assumption) | exact isM.g3 (by assumption) | exact isM.g4 (by assumption) | exact isM.g8 (by assumption) | exact isM.g7 (by assumption) | exact isM.g6 (by assumption) | exact isM.g5 (by assumption) | exact isM.g1 (by assumption) | exact isM.g2 (by assumption)) (by first | assumption | exact b01_r | exact bz_r | omega | (constructor <;> omega) | exact hM _ | exact hPo _ | exact hTa _ | exact hRo _) (by first | assumption | exact b01_r | exact bz_r | omega | (constructor <;> omega) | exact hM _ | exact hPo _ | exact hTa _ | exact hRo _) (by first | assumption | exact b01_r | exact bz_r | omega | (constructor <;> omega) | exact hM _ | exact hPo _ | exact hTa _ | exact hRo _) (by omega) ?_
      refine rj_bipush (pc := 33) dX11_doesIn_33 (by decide +kernel) ?_
      refine rj_icmp_ne (pc := 35) (tgt := 97) dX11_doesIn_35 (by decide) (by first | assumption | exact b01_r | exact bz_r | omega | (constructor <;> omega) | exact hM _ | exact hPo _ | exact hTa _ | exact hRo _) (by first | assumption | exact b01_r | exact bz_r | omega | (constructor <;> omega) | exact hM _ | exact hPo _ | exact hTa _ | exact hRo _) (fun c_35 => ?_) (fun c_35 => ?_)
      · exfalso; omega
      · refine r_aload_n (pc := 38) dX11_doesIn_38 rfl (by first | rfl | exact isRefV_rf _) ?_
        refine rm_getf (pc := 39) dX11_doesIn_39 fX11_11 (by assumption) rfl ?_
        refine rj_iconst (pc := 42) dX11_doesIn_42 ?_
        refine rj_iald (pc := 43) (j := 0) dX11_doesIn_43 (by first | exact isM.g0 (by assumption) | exact isM.g3 (by assumption) | exact isM.g4 (by assumption) | exact isM.g8 (by assumption) | exact isM.g7 (by assumption) | exact isM.g6 (by assumption) | exact isM.g5 (by assumption) | exact isM.g1 (by assumption) | exact isM.g2 (by assumption)) (by first | assumption | exact b01_r | exact bz_r | omega | (constructor <;> omega) | exact hM _ | exact hPo _ | exact hTa _ | exact hRo _) (by first | assumption | exact b01_r | exact bz_r | omega | (constructor <;> omega) | exact hM _ | exact hPo _ | exact hTa _ | exact hRo _) (by first | assumption | exact b01_r | exact bz_r | omega | (constructor <;> omega) | exact hM _ | exact hPo _ | exact hTa _ | exact hRo _) rfl ?_
        refine rj_bipush (pc := 44) dX11_doesIn_44 (by decide +kernel) ?_
        refine rj_icmp_ne (pc := 46) (tgt := 52) dX11_doesIn_46 (by decide) (by first | assumption | exact b01_r | exact bz_r | omega | (constructor <;> omega) | exact hM _ | exact hPo _ | exact hTa _ | exact hRo _) (by first | assumption | exact b01_r | exact bz_r | omega | (constructor <;> omega) | exact hM _ | exact hPo _ | exact hTa _ | exact hRo _) (fun c_46 => ?_) (fun c_46 => ?_)
        · refine r_aload_n (pc := 52) dX11_doesIn_52 rfl (by first | rfl | exact isRefV_rf _) ?_
          refine r_iload (pc := 53) dX11_doesIn_53 rfl ?_
          refine r_callV1 (pc := 55) dX11_doesIn_55 qX11_isOpen kX11_146 vX11_isOpen (by exact isM.gx (by assumption)) rfl rfl (Nat.le_of_ble_eq_true rfl) (m_isOpen _ hB0 hM k0 rs) (fun v_55 h_55 q_55 => ?_)
          obtain ⟨rfl, rfl⟩ := q_55
          refine rj_if_ne (pc := 58) (tgt := 64) dX11_doesIn_58 (by decide) (by first | assumption | exact b01_r | exact bz_r | omega | (constructor <;> omega) | exact hM _ | exact hPo _ | exact hTa _ | exact hRo _) (fun c_58 => ?_) (fun c_58 => ?_)
          · try simp only [b01_0, bz_0, Classical.not_not] at c_58
            exact absurd c_58 ho
          · try simp only [b01_0, bz_0, Classical.not_not] at c_58
            refine rj_bipush (pc := 61) dX11_doesIn_61 (by decide +kernel) ?_
            refine r_ireturn (pc := 63) .int dX11_doesIn_63 rfl (by first | rfl | assumption) ?_
            exact ⟨rfl, hB0, Same.refl⟩
        · exact absurd c_46 h6
    · have eo : (opensM m (m 0).toNat (m (1619 + 72 * t + n)) t) (1619 + 72 * t) = n := by unfold opensM; rw [updI_n (by omega), updI_n (by omega), updI_n (by omega), updI_n (by omega), updI_n (by omega), updI_n (by omega)]; exact hc
      refine r_iload_n (pc := 0) dX11_doesIn_0 rfl ?_
      refine rj_bipush (pc := 1) dX11_doesIn_1 (by decide +kernel) ?_
      refine r_aload_n (pc := 3) dX11_doesIn_3 rfl (by first | rfl | exact isRefV_rf _) ?_
      refine rm_getf (pc := 4) dX11_doesIn_4 fX11_11 (by assumption) rfl ?_
      refine r_iload_n (pc := 7) dX11_doesIn_7 rfl ?_
      refine rj_bipush (pc := 8) dX11_doesIn_8 (by decide +kernel) ?_
      refine rj_iconst (pc := 10) dX11_doesIn_10 ?_
      refine r_callS3 (pc := 11) dX11_doesIn_11 qX11_ofTask kX11_58 sX11_ofTask (Nat.le_of_ble_eq_true rfl) (m_ofTask _) (fun v_11 h_11 q_11 => ?_)
      obtain ⟨rfl, rfl⟩ := q_11
      refine rj_iald (pc := 14) (j := 1619 + 72 * t) dX11_doesIn_14 (by first | exact isM.g0 (by assumption) | exact isM.g3 (by assumption) | exact isM.g4 (by assumption) | exact isM.g8 (by assumption) | exact isM.g7 (by assumption) | exact isM.g6 (by assumption) | exact isM.g5 (by assumption) | exact isM.g1 (by assumption) | exact isM.g2 (by assumption)) (by first | assumption | exact b01_r | exact bz_r | omega | (constructor <;> omega) | exact hM _ | exact hPo _ | exact hTa _ | exact hRo _) (by first | assumption | exact b01_r | exact bz_r | omega | (constructor <;> omega) | exact hM _ | exact hPo _ | exact hTa _ | exact hRo _) (by first | assumption | exact b01_r | exact bz_r | omega | (constructor <;> omega) | exact hM _ | exact hPo _ | exact hTa _ | exact hRo _) (by omega) ?_
      rw [hc]
      refine r_callS3 (pc := 15) dX11_doesIn_15 qX11_ofTask kX11_58 sX11_ofTask (Nat.le_of_ble_eq_true rfl) (m_ofTask _) (fun v_15 h_15 q_15 => ?_)
      obtain ⟨rfl, rfl⟩ := q_15
      rw [show (1608 + 72 * (t : Int) + 11 + (n : Int)) = ((1619 + 72 * t + n : Nat) : Int) by omega]
      refine r_istore_n (pc := 18) dX11_doesIn_18 (Nat.le_of_ble_eq_true rfl) ?_
      dsimp only [lsSt, List.set, mLs, mEnt]
      refine r_aload_n (pc := 19) dX11_doesIn_19 rfl (by first | rfl | exact isRefV_rf _) ?_
      refine rm_getf (pc := 20) dX11_doesIn_20 fX11_11 (by assumption) rfl ?_
      refine r_iload_n (pc := 23) dX11_doesIn_23 rfl ?_
      refine rj_iald (pc := 24) (j := 1619 + 72 * t + n) dX11_doesIn_24 (by first | exact isM.g0 (by assumption) | exact isM.g3 (by assumption) | exact isM.g4 (by assumption) | exact isM.g8 (by assumption) | exact isM.g7 (by assumption) | exact isM.g6 (by assumption) | exact isM.g5 (by assumption) | exact isM.g1 (by assumption) | exact isM.g2 (by assumption)) (by first | assumption | exact b01_r | exact bz_r | omega | (constructor <;> omega) | exact hM _ | exact hPo _ | exact hTa _ | exact hRo _) (by first | assumption | exact b01_r | exact bz_r | omega | (constructor <;> omega) | exact hM _ | exact hPo _ | exact hTa _ | exact hRo _) (by first | assumption | exact b01_r | exact bz_r | omega | (constructor <;> omega) | exact hM _ | exact hPo _ | exact hTa _ | exact hRo _) (by omega) ?_
      refine r_istore (pc := 25) dX11_doesIn_25 (Nat.le_of_ble_eq_true rfl) ?_
      dsimp only [lsSt, List.set, mLs, mEnt]
      refine r_aload_n (pc := 27) dX11_doesIn_27 rfl (by first | rfl | exact isRefV_rf _) ?_
      refine rm_getf (pc := 28) dX11_doesIn_28 fX11_21 (by assumption) rfl ?_
      refine r_iload_n (pc := 31) dX11_doesIn_31 rfl ?_
      refine rj_iald (pc := 32) (j := p) dX11_doesIn_32 (by first | exact isM.g0 (by assumption) | exact isM.g3 (by assumption) | exact isM.g4 (by assumption) | exact isM.g8 (by assumption) | exact isM.g7 (by assumption) | exact isM.g6 (by assumption) | exact isM.g5 (by assumption) | exact isM.g1 (by assumption) | exact isM.g2 (by assumption)) (by first | assumption | exact b01_r | exact bz_r | omega | (constructor <;> omega) | exact hM _ | exact hPo _ | exact hTa _ | exact hRo _) (by first | assumption | exact b01_r | exact bz_r | omega | (constructor <;> omega) | exact hM _ | exact hPo _ | exact hTa _ | exact hRo _) (by first | assumption | exact b01_r | exact bz_r | omega | (constructor <;> omega) | exact hM _ | exact hPo _ | exact hTa _ | exact hRo _) (by omega) ?_
      refine rj_bipush (pc := 33) dX11_doesIn_33 (by decide +kernel) ?_
      refine rj_icmp_ne (pc := 35) (tgt := 97) dX11_doesIn_35 (by decide) (by first | assumption | exact b01_r | exact bz_r | omega | (constructor <;> omega) | exact hM _ | exact hPo _ | exact hTa _ | exact hRo _) (by first | assumption | exact b01_r | exact bz_r | omega | (constructor <;> omega) | exact hM _ | exact hPo _ | exact hTa _ | exact hRo _) (fun c_35 => ?_) (fun c_35 => ?_)
      · exfalso; omega
      · refine r_aload_n (pc := 38) dX11_doesIn_38 rfl (by first | rfl | exact isRefV_rf _) ?_
        refine rm_getf (pc := 39) dX11_doesIn_39 fX11_11 (by assumption) rfl ?_
        refine rj_iconst (pc := 42) dX11_doesIn_42 ?_
        refine rj_iald (pc := 43) (j := 0) dX11_doesIn_43 (by first | exact isM.g0 (by assumption) | exact isM.g3 (by assumption) | exact isM.g4 (by assumption) | exact isM.g8 (by assumption) | exact isM.g7 (by assumption) | exact isM.g6 (by assumption) | exact isM.g5 (by assumption) | exact isM.g1 (by assumption) | exact isM.g2 (by assumption)) (by first | assumption | exact b01_r | exact bz_r | omega | (constructor <;> omega) | exact hM _ | exact hPo _ | exact hTa _ | exact hRo _) (by first | assumption | exact b01_r | exact bz_r | omega | (constructor <;> omega) | exact hM _ | exact hPo _ | exact hTa _ | exact hRo _) (by first | assumption | exact b01_r | exact bz_r | omega | (constructor <;> omega) | exact hM _ | exact hPo _ | exact hTa _ | exact hRo _) rfl ?_
        refine rj_bipush (pc := 44) dX11_doesIn_44 (by decide +kernel) ?_
        refine rj_icmp_ne (pc := 46) (tgt := 52) dX11_doesIn_46 (by decide) (by first | assumption | exact b01_r | exact bz_r | omega | (constructor <;> omega) | exact hM _ | exact hPo _ | exact hTa _ | exact hRo _) (by first | assumption | exact b01_r | exact bz_r | omega | (constructor <;> omega) | exact hM _ | exact hPo _ | exact hTa _ | exact hRo _) (fun c_46 => ?_) (fun c_46 => ?_)
        · refine r_aload_n (pc := 52) dX11_doesIn_52 rfl (by first | rfl | exact isRefV_rf _) ?_
          refine r_iload (pc := 53) dX11_doesIn_53 rfl ?_
          refine r_callV1 (pc := 55) dX11_doesIn_55 qX11_isOpen kX11_146 vX11_isOpen (by exact isM.gx (by assumption)) rfl rfl (Nat.le_of_ble_eq_true rfl) (m_isOpen _ hB0 hM k0 rs) (fun v_55 h_55 q_55 => ?_)
          obtain ⟨rfl, rfl⟩ := q_55
          refine rj_if_ne (pc := 58) (tgt := 64) dX11_doesIn_58 (by decide) (by first | assumption | exact b01_r | exact bz_r | omega | (constructor <;> omega) | exact hM _ | exact hPo _ | exact hTa _ | exact hRo _) (fun c_58 => ?_) (fun c_58 => ?_)
          · try simp only [b01_0, bz_0, Classical.not_not] at c_58
            refine r_aload_n (pc := 64) dX11_doesIn_64 rfl (by first | rfl | exact isRefV_rf _) ?_
            refine rm_getf (pc := 65) dX11_doesIn_65 fX11_11 (by assumption) rfl ?_
            refine r_iload_n (pc := 68) dX11_doesIn_68 rfl ?_
            refine rj_iconst (pc := 69) dX11_doesIn_69 ?_
            refine rj_iadd (pc := 70) dX11_doesIn_70 ?_
            refine r_aload_n (pc := 71) dX11_doesIn_71 rfl (by first | rfl | exact isRefV_rf _) ?_
            refine r_iload (pc := 72) dX11_doesIn_72 rfl ?_
            refine r_iload_n (pc := 74) dX11_doesIn_74 rfl ?_
            refine r_callV2 (pc := 75) dX11_doesIn_75 qX11_opens kX11_186 vX11_opens (by exact isM.gx (by assumption)) rfl rfl (Nat.le_of_ble_eq_true rfl) (m_opens _ hB0 (C := (m 0).toNat) (by omega) (by omega)) (fun v_75 h_75 q_75 => ?_)
            obtain ⟨rfl, hB_75, S_75⟩ := q_75
            rw [show (((m 0).toNat : Nat) : Int) = m 0 by omega]
            first | refine rm_iast0 (pc := 78) (j := 1620 + 72 * t + n) dX11_doesIn_78 (by assumption) (by first | assumption | exact b01_r | exact bz_r | omega | (constructor <;> omega) | exact hM _ | exact hPo _ | exact hTa _ | exact hRo _) (by first | assumption | exact b01_r | exact bz_r | omega | (constructor <;> omega) | exact hM _ | exact hPo _ | exact hTa _ | exact hRo _) (by first | assumption | exact b01_r | exact bz_r | omega | (constructor <;> omega) | exact hM _ | exact hPo _ | exact hTa _ | exact hRo _) (by omega) (fun h_78 hB_78 hS_78 => ?_)
            refine r_aload_n (pc := 79) dX11_doesIn_79 rfl (by first | rfl | exact isRefV_rf _) ?_
            refine rm_getf (pc := 80) dX11_doesIn_80 fX11_11 (by assumption) rfl ?_
            refine r_iload_n (pc := 83) dX11_doesIn_83 rfl ?_
            refine rj_bipush (pc := 84) dX11_doesIn_84 (by decide +kernel) ?_
            refine rj_iconst (pc := 86) dX11_doesIn_86 ?_
            refine r_callS3 (pc := 87) dX11_doesIn_87 qX11_ofTask kX11_58 sX11_ofTask (Nat.le_of_ble_eq_true rfl) (m_ofTask _) (fun v_87 h_87 q_87 => ?_)
            obtain ⟨rfl, rfl⟩ := q_87
            refine r_dup2 (pc := 90) dX11_doesIn_90 rfl rfl ?_
            refine rj_iald (pc := 91) (j := 1619 + 72 * t) dX11_doesIn_91 (by first | exact isM.g0 (by assumption) | exact isM.g3 (by assumption) | exact isM.g4 (by assumption) | exact isM.g8 (by assumption) | exact isM.g7 (by assumption) | exact isM.g6 (by assumption) | exact isM.g5 (by assumption) | exact isM.g1 (by assumption) | exact isM.g2 (by assumption)) (by first | assumption | exact b01_r | exact bz_r | omega | (constructor <;> omega) | exact hM _ | exact hPo _ | exact hTa _ | exact hRo _) (by first | assumption | exact b01_r | exact bz_r | omega | (constructor <;> omega) | exact hM _ | exact hPo _ | exact hTa _ | exact hRo _) (by first | assumption | exact b01_r | exact bz_r | omega | (constructor <;> omega) | exact hM _ | exact hPo _ | exact hTa _ | exact hRo _) (by omega) ?_
            rw [show updI (opensM m (m 0).toNat (m (1619 + 72 * t + n)) t) (1620 + 72 * t + n) (m 0) (1619 + 72 * t) = n from (updI_n (by omega)).trans eo]
            refine rj_iconst (pc := 92) dX11_doesIn_92 ?_
            refine rj_iadd (pc := 93) dX11_doesIn_93 ?_
            first | refine rm_iast0 (pc := 94) (j := 1619 + 72 * t) dX11_doesIn_94 (by assumption) (by first | assumption | exact b01_r | exact bz_r | omega | (constructor <;> omega) | exact hM _ | exact hPo _ | exact hTa _ | exact hRo _) (by first | assumption | exact b01_r | exact bz_r | omega | (constructor <;> omega) | exact hM _ | exact hPo _ | exact hTa _ | exact hRo _) (by first | assumption | exact b01_r | exact bz_r | omega | (constructor <;> omega) | exact hM _ | exact hPo _ | exact hTa _ | exact hRo _) (by omega) (fun h_94 hB_94 hS_94 => ?_)
            refine rj_iconst (pc := 95) dX11_doesIn_95 ?_
            refine r_ireturn (pc := 96) .int dX11_doesIn_96 rfl (by first | rfl | assumption) ?_
            exact ⟨rfl, hB_94, (S_75.trans hS_78).trans hS_94⟩
          · try simp only [b01_0, bz_0, Classical.not_not] at c_58
            exact absurd ho c_58
        · exact absurd c_46 h6
  · refine r_iload_n (pc := 0) dX11_doesIn_0 rfl ?_
    refine rj_bipush (pc := 1) dX11_doesIn_1 (by decide +kernel) ?_
    refine r_aload_n (pc := 3) dX11_doesIn_3 rfl (by first | rfl | exact isRefV_rf _) ?_
    refine rm_getf (pc := 4) dX11_doesIn_4 fX11_11 (by assumption) rfl ?_
    refine r_iload_n (pc := 7) dX11_doesIn_7 rfl ?_
    refine rj_bipush (pc := 8) dX11_doesIn_8 (by decide +kernel) ?_
    refine rj_iconst (pc := 10) dX11_doesIn_10 ?_
    refine r_callS3 (pc := 11) dX11_doesIn_11 qX11_ofTask kX11_58 sX11_ofTask (Nat.le_of_ble_eq_true rfl) (m_ofTask _) (fun v_11 h_11 q_11 => ?_)
    obtain ⟨rfl, rfl⟩ := q_11
    refine rj_iald (pc := 14) (j := 1619 + 72 * t) dX11_doesIn_14 (by first | exact isM.g0 (by assumption) | exact isM.g3 (by assumption) | exact isM.g4 (by assumption) | exact isM.g8 (by assumption) | exact isM.g7 (by assumption) | exact isM.g6 (by assumption) | exact isM.g5 (by assumption) | exact isM.g1 (by assumption) | exact isM.g2 (by assumption)) (by first | assumption | exact b01_r | exact bz_r | omega | (constructor <;> omega) | exact hM _ | exact hPo _ | exact hTa _ | exact hRo _) (by first | assumption | exact b01_r | exact bz_r | omega | (constructor <;> omega) | exact hM _ | exact hPo _ | exact hTa _ | exact hRo _) (by first | assumption | exact b01_r | exact bz_r | omega | (constructor <;> omega) | exact hM _ | exact hPo _ | exact hTa _ | exact hRo _) (by omega) ?_
    rw [hc]
    refine r_callS3 (pc := 15) dX11_doesIn_15 qX11_ofTask kX11_58 sX11_ofTask (Nat.le_of_ble_eq_true rfl) (m_ofTask _) (fun v_15 h_15 q_15 => ?_)
    obtain ⟨rfl, rfl⟩ := q_15
    rw [show (1608 + 72 * (t : Int) + 11 + (n : Int)) = ((1619 + 72 * t + n : Nat) : Int) by omega]
    refine r_istore_n (pc := 18) dX11_doesIn_18 (Nat.le_of_ble_eq_true rfl) ?_
    dsimp only [lsSt, List.set, mLs, mEnt]
    refine r_aload_n (pc := 19) dX11_doesIn_19 rfl (by first | rfl | exact isRefV_rf _) ?_
    refine rm_getf (pc := 20) dX11_doesIn_20 fX11_11 (by assumption) rfl ?_
    refine r_iload_n (pc := 23) dX11_doesIn_23 rfl ?_
    refine rj_iald (pc := 24) (j := 1619 + 72 * t + n) dX11_doesIn_24 (by first | exact isM.g0 (by assumption) | exact isM.g3 (by assumption) | exact isM.g4 (by assumption) | exact isM.g8 (by assumption) | exact isM.g7 (by assumption) | exact isM.g6 (by assumption) | exact isM.g5 (by assumption) | exact isM.g1 (by assumption) | exact isM.g2 (by assumption)) (by first | assumption | exact b01_r | exact bz_r | omega | (constructor <;> omega) | exact hM _ | exact hPo _ | exact hTa _ | exact hRo _) (by first | assumption | exact b01_r | exact bz_r | omega | (constructor <;> omega) | exact hM _ | exact hPo _ | exact hTa _ | exact hRo _) (by first | assumption | exact b01_r | exact bz_r | omega | (constructor <;> omega) | exact hM _ | exact hPo _ | exact hTa _ | exact hRo _) (by omega) ?_
    refine r_istore (pc := 25) dX11_doesIn_25 (Nat.le_of_ble_eq_true rfl) ?_
    dsimp only [lsSt, List.set, mLs, mEnt]
    refine r_aload_n (pc := 27) dX11_doesIn_27 rfl (by first | rfl | exact isRefV_rf _) ?_
    refine rm_getf (pc := 28) dX11_doesIn_28 fX11_21 (by assumption) rfl ?_
    refine r_iload_n (pc := 31) dX11_doesIn_31 rfl ?_
    refine rj_iald (pc := 32) (j := p) dX11_doesIn_32 (by first | exact isM.g0 (by assumption) | exact isM.g3 (by assumption) | exact isM.g4 (by assumption) | exact isM.g8 (by assumption) | exact isM.g7 (by assumption) | exact isM.g6 (by assumption) | exact isM.g5 (by assumption) | exact isM.g1 (by assumption) | exact isM.g2 (by assumption)) (by first | assumption | exact b01_r | exact bz_r | omega | (constructor <;> omega) | exact hM _ | exact hPo _ | exact hTa _ | exact hRo _) (by first | assumption | exact b01_r | exact bz_r | omega | (constructor <;> omega) | exact hM _ | exact hPo _ | exact hTa _ | exact hRo _) (by first | assumption | exact b01_r | exact bz_r | omega | (constructor <;> omega) | exact hM _ | exact hPo _ | exact hTa _ | exact hRo _) (by omega) ?_
    refine rj_bipush (pc := 33) dX11_doesIn_33 (by decide +kernel) ?_
    refine rj_icmp_ne (pc := 35) (tgt := 97) dX11_doesIn_35 (by decide) (by first | assumption | exact b01_r | exact bz_r | omega | (constructor <;> omega) | exact hM _ | exact hPo _ | exact hTa _ | exact hRo _) (by first | assumption | exact b01_r | exact bz_r | omega | (constructor <;> omega) | exact hM _ | exact hPo _ | exact hTa _ | exact hRo _) (fun c_35 => ?_) (fun c_35 => ?_)
    · refine r_aload_n (pc := 97) dX11_doesIn_97 rfl (by first | rfl | exact isRefV_rf _) ?_
      refine rm_getf (pc := 98) dX11_doesIn_98 fX11_21 (by assumption) rfl ?_
      refine r_iload_n (pc := 101) dX11_doesIn_101 rfl ?_
      refine rj_iald (pc := 102) (j := p) dX11_doesIn_102 (by first | exact isM.g0 (by assumption) | exact isM.g3 (by assumption) | exact isM.g4 (by assumption) | exact isM.g8 (by assumption) | exact isM.g7 (by assumption) | exact isM.g6 (by assumption) | exact isM.g5 (by assumption) | exact isM.g1 (by assumption) | exact isM.g2 (by assumption)) (by first | assumption | exact b01_r | exact bz_r | omega | (constructor <;> omega) | exact hM _ | exact hPo _ | exact hTa _ | exact hRo _) (by first | assumption | exact b01_r | exact bz_r | omega | (constructor <;> omega) | exact hM _ | exact hPo _ | exact hTa _ | exact hRo _) (by first | assumption | exact b01_r | exact bz_r | omega | (constructor <;> omega) | exact hM _ | exact hPo _ | exact hTa _ | exact hRo _) (by omega) ?_
      refine rj_bipush (pc := 103) dX11_doesIn_103 (by decide +kernel) ?_
      refine rj_icmp_ne (pc := 105) (tgt := 132) dX11_doesIn_105 (by decide) (by first | assumption | exact b01_r | exact bz_r | omega | (constructor <;> omega) | exact hM _ | exact hPo _ | exact hTa _ | exact hRo _) (by first | assumption | exact b01_r | exact bz_r | omega | (constructor <;> omega) | exact hM _ | exact hPo _ | exact hTa _ | exact hRo _) (fun c_105 => ?_) (fun c_105 => ?_)
      · exfalso; omega
      · refine r_aload_n (pc := 108) dX11_doesIn_108 rfl (by first | rfl | exact isRefV_rf _) ?_
        refine rm_getf (pc := 109) dX11_doesIn_109 fX11_11 (by assumption) rfl ?_
        refine r_iload_n (pc := 112) dX11_doesIn_112 rfl ?_
        refine rj_bipush (pc := 113) dX11_doesIn_113 (by decide +kernel) ?_
        refine rj_iconst (pc := 115) dX11_doesIn_115 ?_
        refine r_callS3 (pc := 116) dX11_doesIn_116 qX11_ofTask kX11_58 sX11_ofTask (Nat.le_of_ble_eq_true rfl) (m_ofTask _) (fun v_116 h_116 q_116 => ?_)
        obtain ⟨rfl, rfl⟩ := q_116
        refine r_dup2 (pc := 119) dX11_doesIn_119 rfl rfl ?_
        refine rj_iald (pc := 120) (j := 1619 + 72 * t) dX11_doesIn_120 (by first | exact isM.g0 (by assumption) | exact isM.g3 (by assumption) | exact isM.g4 (by assumption) | exact isM.g8 (by assumption) | exact isM.g7 (by assumption) | exact isM.g6 (by assumption) | exact isM.g5 (by assumption) | exact isM.g1 (by assumption) | exact isM.g2 (by assumption)) (by first | assumption | exact b01_r | exact bz_r | omega | (constructor <;> omega) | exact hM _ | exact hPo _ | exact hTa _ | exact hRo _) (by first | assumption | exact b01_r | exact bz_r | omega | (constructor <;> omega) | exact hM _ | exact hPo _ | exact hTa _ | exact hRo _) (by first | assumption | exact b01_r | exact bz_r | omega | (constructor <;> omega) | exact hM _ | exact hPo _ | exact hTa _ | exact hRo _) (by omega) ?_
        rw [hc]
        refine rj_iconst (pc := 121) dX11_doesIn_121 ?_
        refine rj_isub (pc := 122) dX11_doesIn_122 ?_
        first | refine rm_iast0 (pc := 123) (j := 1619 + 72 * t) dX11_doesIn_123 (by assumption) (by first | assumption | exact b01_r | exact bz_r | omega | (constructor <;> omega) | exact hM _ | exact hPo _ | exact hTa _ | exact hRo _) (by first | assumption | exact b01_r | exact bz_r | omega | (constructor <;> omega) | exact hM _ | exact hPo _ | exact hTa _ | exact hRo _) (by first | assumption | exact b01_r | exact bz_r | omega | (constructor <;> omega) | exact hM _ | exact hPo _ | exact hTa _ | exact hRo _) (by omega) (fun h_123 hB_123 hS_123 => ?_)
        refine r_aload_n (pc := 124) dX11_doesIn_124 rfl (by first | rfl | exact isRefV_rf _) ?_
        refine r_iload (pc := 125) dX11_doesIn_125 rfl ?_
        refine r_callV1 (pc := 127) dX11_doesIn_127 qX11_shuts kX11_157 vX11_shuts (by exact isM.gx (by assumption)) rfl rfl (Nat.le_of_ble_eq_true rfl) ((hsh _ _ _ _ hB_123 hR).deeper (by omega)) (fun v_127 h_127 q_127 => ?_)
        obtain ⟨rfl, hB_127, S_127⟩ := q_127
        refine rj_iconst (pc := 130) dX11_doesIn_130 ?_
        refine r_ireturn (pc := 131) .int dX11_doesIn_131 rfl (by first | rfl | assumption) ?_
        exact ⟨rfl, hB_127, hS_123.trans S_127⟩
    · exfalso; omega
  · refine r_iload_n (pc := 0) dX11_doesIn_0 rfl ?_
    refine rj_bipush (pc := 1) dX11_doesIn_1 (by decide +kernel) ?_
    refine r_aload_n (pc := 3) dX11_doesIn_3 rfl (by first | rfl | exact isRefV_rf _) ?_
    refine rm_getf (pc := 4) dX11_doesIn_4 fX11_11 (by assumption) rfl ?_
    refine r_iload_n (pc := 7) dX11_doesIn_7 rfl ?_
    refine rj_bipush (pc := 8) dX11_doesIn_8 (by decide +kernel) ?_
    refine rj_iconst (pc := 10) dX11_doesIn_10 ?_
    refine r_callS3 (pc := 11) dX11_doesIn_11 qX11_ofTask kX11_58 sX11_ofTask (Nat.le_of_ble_eq_true rfl) (m_ofTask _) (fun v_11 h_11 q_11 => ?_)
    obtain ⟨rfl, rfl⟩ := q_11
    refine rj_iald (pc := 14) (j := 1619 + 72 * t) dX11_doesIn_14 (by first | exact isM.g0 (by assumption) | exact isM.g3 (by assumption) | exact isM.g4 (by assumption) | exact isM.g8 (by assumption) | exact isM.g7 (by assumption) | exact isM.g6 (by assumption) | exact isM.g5 (by assumption) | exact isM.g1 (by assumption) | exact isM.g2 (by assumption)) (by first | assumption | exact b01_r | exact bz_r | omega | (constructor <;> omega) | exact hM _ | exact hPo _ | exact hTa _ | exact hRo _) (by first | assumption | exact b01_r | exact bz_r | omega | (constructor <;> omega) | exact hM _ | exact hPo _ | exact hTa _ | exact hRo _) (by first | assumption | exact b01_r | exact bz_r | omega | (constructor <;> omega) | exact hM _ | exact hPo _ | exact hTa _ | exact hRo _) (by omega) ?_
    rw [hc]
    refine r_callS3 (pc := 15) dX11_doesIn_15 qX11_ofTask kX11_58 sX11_ofTask (Nat.le_of_ble_eq_true rfl) (m_ofTask _) (fun v_15 h_15 q_15 => ?_)
    obtain ⟨rfl, rfl⟩ := q_15
    rw [show (1608 + 72 * (t : Int) + 11 + (n : Int)) = ((1619 + 72 * t + n : Nat) : Int) by omega]
    refine r_istore_n (pc := 18) dX11_doesIn_18 (Nat.le_of_ble_eq_true rfl) ?_
    dsimp only [lsSt, List.set, mLs, mEnt]
    refine r_aload_n (pc := 19) dX11_doesIn_19 rfl (by first | rfl | exact isRefV_rf _) ?_
    refine rm_getf (pc := 20) dX11_doesIn_20 fX11_11 (by assumption) rfl ?_
    refine r_iload_n (pc := 23) dX11_doesIn_23 rfl ?_
    refine rj_iald (pc := 24) (j := 1619 + 72 * t + n) dX11_doesIn_24 (by first | exact isM.g0 (by assumption) | exact isM.g3 (by assumption) | exact isM.g4 (by assumption) | exact isM.g8 (by assumption) | exact isM.g7 (by assumption) | exact isM.g6 (by assumption) | exact isM.g5 (by assumption) | exact isM.g1 (by assumption) | exact isM.g2 (by assumption)) (by first | assumption | exact b01_r | exact bz_r | omega | (constructor <;> omega) | exact hM _ | exact hPo _ | exact hTa _ | exact hRo _) (by first | assumption | exact b01_r | exact bz_r | omega | (constructor <;> omega) | exact hM _ | exact hPo _ | exact hTa _ | exact hRo _) (by first | assumption | exact b01_r | exact bz_r | omega | (constructor <;> omega) | exact hM _ | exact hPo _ | exact hTa _ | exact hRo _) (by omega) ?_
    refine r_istore (pc := 25) dX11_doesIn_25 (Nat.le_of_ble_eq_true rfl) ?_
    dsimp only [lsSt, List.set, mLs, mEnt]
    refine r_aload_n (pc := 27) dX11_doesIn_27 rfl (by first | rfl | exact isRefV_rf _) ?_
    refine rm_getf (pc := 28) dX11_doesIn_28 fX11_21 (by assumption) rfl ?_
    refine r_iload_n (pc := 31) dX11_doesIn_31 rfl ?_
    refine rj_iald (pc := 32) (j := p) dX11_doesIn_32 (by first | exact isM.g0 (by assumption) | exact isM.g3 (by assumption) | exact isM.g4 (by assumption) | exact isM.g8 (by assumption) | exact isM.g7 (by assumption) | exact isM.g6 (by assumption) | exact isM.g5 (by assumption) | exact isM.g1 (by assumption) | exact isM.g2 (by assumption)) (by first | assumption | exact b01_r | exact bz_r | omega | (constructor <;> omega) | exact hM _ | exact hPo _ | exact hTa _ | exact hRo _) (by first | assumption | exact b01_r | exact bz_r | omega | (constructor <;> omega) | exact hM _ | exact hPo _ | exact hTa _ | exact hRo _) (by first | assumption | exact b01_r | exact bz_r | omega | (constructor <;> omega) | exact hM _ | exact hPo _ | exact hTa _ | exact hRo _) (by omega) ?_
    refine rj_bipush (pc := 33) dX11_doesIn_33 (by decide +kernel) ?_
    refine rj_icmp_ne (pc := 35) (tgt := 97) dX11_doesIn_35 (by decide) (by first | assumption | exact b01_r | exact bz_r | omega | (constructor <;> omega) | exact hM _ | exact hPo _ | exact hTa _ | exact hRo _) (by first | assumption | exact b01_r | exact bz_r | omega | (constructor <;> omega) | exact hM _ | exact hPo _ | exact hTa _ | exact hRo _) (fun c_35 => ?_) (fun c_35 => ?_)
    · refine r_aload_n (pc := 97) dX11_doesIn_97 rfl (by first | rfl | exact isRefV_rf _) ?_
      refine rm_getf (pc := 98) dX11_doesIn_98 fX11_21 (by assumption) rfl ?_
      refine r_iload_n (pc := 101) dX11_doesIn_101 rfl ?_
      refine rj_iald (pc := 102) (j := p) dX11_doesIn_102 (by first | exact isM.g0 (by assumption) | exact isM.g3 (by assumption) | exact isM.g4 (by assumption) | exact isM.g8 (by assumption) | exact isM.g7 (by assumption) | exact isM.g6 (by assumption) | exact isM.g5 (by assumption) | exact isM.g1 (by assumption) | exact isM.g2 (by assumption)) (by first | assumption | exact b01_r | exact bz_r | omega | (constructor <;> omega) | exact hM _ | exact hPo _ | exact hTa _ | exact hRo _) (by first | assumption | exact b01_r | exact bz_r | omega | (constructor <;> omega) | exact hM _ | exact hPo _ | exact hTa _ | exact hRo _) (by first | assumption | exact b01_r | exact bz_r | omega | (constructor <;> omega) | exact hM _ | exact hPo _ | exact hTa _ | exact hRo _) (by omega) ?_
      refine rj_bipush (pc := 103) dX11_doesIn_103 (by decide +kernel) ?_
      refine rj_icmp_ne (pc := 105) (tgt := 132) dX11_doesIn_105 (by decide) (by first | assumption | exact b01_r | exact bz_r | omega | (constructor <;> omega) | exact hM _ | exact hPo _ | exact hTa _ | exact hRo _) (by first | assumption | exact b01_r | exact bz_r | omega | (constructor <;> omega) | exact hM _ | exact hPo _ | exact hTa _ | exact hRo _) (fun c_105 => ?_) (fun c_105 => ?_)
      · refine r_aload_n (pc := 132) dX11_doesIn_132 rfl (by first | rfl | exact isRefV_rf _) ?_
        refine r_iload_n (pc := 133) dX11_doesIn_133 rfl ?_
        refine r_iload (pc := 134) dX11_doesIn_134 rfl ?_
        refine r_callV2 (pc := 136) dX11_doesIn_136 qX11_does kX11_136 vX11_does (by exact isM.gx (by assumption)) rfl rfl (Nat.le_of_ble_eq_true rfl) (hd _ _ hR) (fun v_136 h_136 q_136 => ?_)
        obtain ⟨rfl, hB_136, S_136⟩ := q_136
        refine r_ireturn (pc := 139) .int dX11_doesIn_139 rfl (by first | rfl | assumption) ?_
        exact ⟨rfl, hB_136, S_136⟩
      · exact absurd c_105 hk2
    · exact absurd c_35 hk
end mg_71
