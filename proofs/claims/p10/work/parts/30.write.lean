/-! ===== contracts of the reference: names written, things taken, faults gathered ===== -/
def nwL (rc : Nat → Int) (t fr : Nat) : Nat → Nat → (Nat → Int) → (Nat → Int)
  | 0, _, m => m
  | n + 1, k, m => nwL rc t fr n (k + 1) (updI m (265 + 14 * t + (k - fr)) (rc k))
def namesM (m rc : Nat → Int) (t fr to : Nat) : Nat → Int := nwL rc t fr (to - fr) fr (updI m (261 + 14 * t) ((to : Int) - fr))
set_option maxHeartbeats 4000000 in
set_option maxRecDepth 100000 in
theorem L_names {G : mG} {l : Launch} (d : Nat) {x s : Nat} {f4 f6 f8 f9 f10 f11 f12 f13 f14 f16 f18 : Int} {kp was pool tape pln pap rwd rw : Nat → Int} {rs : Nat} {rc : Nat → Int} {fr to : Nat} (hR : rowOk rs rc pool tape to) (hft : fr ≤ to) (h7 : to - fr ≤ 7) {t : Nat} (ht : t ≤ 89) : ∀ (n k : Nat) (m : Nat → Int) (h : mH), isM h x (mFs x f4 f6 f8 f9 f10 f11 f12 f13 f14 f16 f18 s) m kp was pool tape pln pap rwd rw → fr ≤ k → k + n = to → RUN G l (d + 1) mX11_names 18 [some (.ref x), some (.int (J (t : Int))), some (.ref (mAd x rs)), some (.int (J (fr : Int))), some (.int (J (to : Int))), some (.int (J (k : Int)))] [] h (fun v h' => v = none ∧ isM h' x (mFs x f4 f6 f8 f9 f10 f11 f12 f13 f14 f16 f18 s) (nwL rc t fr n k m) kp was pool tape pln pap rwd rw ∧ Same (mBlk x) h h') := by
  have hto : to ≤ 12342 := by rcases hR with ⟨-, -, g⟩ | ⟨-, -, g⟩ <;> omega
  intro n
  induction n with
  | zero =>
    intro k m h hB hk hn
    have hB0 := hB
    dsimp only [mFs] at hB
    refine r_iload (pc := 18) dX11_names_18 rfl ?_
    refine r_iload (pc := 20) dX11_names_20 rfl ?_
    refine rj_icmp_ge (pc := 22) (tgt := 50) dX11_names_22 (by decide) (by first | assumption | exact b01_r | exact bz_r | omega | (constructor <;> omega) | exact hM _ | exact hPo _ | exact hTa _ | exact hRo _) (by first | assumption | exact b01_r | exact bz_r | omega | (constructor <;> omega) | exact hM _ | exact hPo _ | exact hTa _ | exact hRo _) (fun c_22 => ?_) (fun c_22 => ?_)
    · refine r_return (pc := 50) dX11_names_50 rfl ?_
      exact ⟨rfl, hB0, Same.refl⟩
    · exfalso; omega
  | succ n ih =>
    intro k m h hB hk hn
    obtain ⟨sz, hrow, hsz⟩ := isM.row hB hR
    dsimp only [mFs] at hB
    refine r_iload (pc := 18) dX11_names_18 rfl ?_
    refine r_iload (pc := 20) dX11_names_20 rfl ?_
    refine rj_icmp_ge (pc := 22) (tgt := 50) dX11_names_22 (by decide) (by first | assumption | exact b01_r | exact bz_r | omega | (constructor <;> omega) | exact hM _ | exact hPo _ | exact hTa _ | exact hRo _) (by first | assumption | exact b01_r | exact bz_r | omega | (constructor <;> omega) | exact hM _ | exact hPo _ | exact hTa _ | exact hRo _) (fun c_22 => ?_) (fun c_22 => ?_)
    · refine r_return (pc := 50) dX11_names_50 rfl ?_
      exfalso; omega
    · refine r_aload_n (pc := 25) dX11_names_25 rfl (by first | rfl | exact isRefV_rf _) ?_
      refine rm_getf (pc := 26) dX11_names_26 fX11_11 (by assumption) rfl ?_
      refine r_iload_n (pc := 29) dX11_names_29 rfl ?_
      refine rj_bipush (pc := 30) dX11_names_30 (by decide +kernel) ?_
      refine r_iload (pc := 32) dX11_names_32 rfl ?_
      refine r_iload_n (pc := 34) dX11_names_34 rfl ?_
      refine rj_isub (pc := 35) dX11_names_35 ?_
      refine r_callS3 (pc := 36) dX11_names_36 qX11_ofThing kX11_54 sX11_ofThing (Nat.le_of_ble_eq_true rfl) (m_ofThing d) (fun v_36 h_36 q_36 => ?_)
      obtain ⟨rfl, rfl⟩ := q_36
      refine r_aload_n (pc := 39) dX11_names_39 rfl (by first | rfl | exact isRefV_rf _) ?_
      refine r_iload (pc := 40) dX11_names_40 rfl ?_
      refine rj_iald (pc := 42) (j := k) dX11_names_42 hrow (by constructor <;> omega) (by omega) (by omega) (by omega) ?_
      first | refine rm_iast0 (pc := 43) (j := 265 + 14 * t + (k - fr)) dX11_names_43 (by assumption) (by first | assumption | exact b01_r | exact bz_r | omega | (constructor <;> omega) | exact hM _ | exact hPo _ | exact hTa _ | exact hRo _) (by first | assumption | exact b01_r | exact bz_r | omega | (constructor <;> omega) | exact hM _ | exact hPo _ | exact hTa _ | exact hRo _) (by first | assumption | exact b01_r | exact bz_r | omega | (constructor <;> omega) | exact hM _ | exact hPo _ | exact hTa _ | exact hRo _) (by omega) (fun h_43 hB_43 hS_43 => ?_)
      refine rj_iinc (pc := 44) dX11_names_44 (Nat.le_of_ble_eq_true rfl) rfl ?_
      dsimp only [lsSt, List.set, mLs, mEnt]
      refine r_goto (pc := 47) (tgt := 18) dX11_names_47 (by decide) ?_
      have z := ih (k + 1) _ _ hB_43 (by omega) (by omega)
      exact z.mono (fun v h' g => ⟨g.1, g.2.1, hS_43.trans g.2.2⟩)
set_option maxHeartbeats 4000000 in
set_option maxRecDepth 100000 in
theorem m_names {G : mG} {l : Launch} (d : Nat) {h : mH} {x s : Nat} {f4 f6 f8 f9 f10 f11 f12 f13 f14 f16 f18 : Int} {m kp was pool tape pln pap rwd rw : Nat → Int}(hB : isM h x (mFs x f4 f6 f8 f9 f10 f11 f12 f13 f14 f16 f18 s) m kp was pool tape pln pap rwd rw) {rs : Nat} {rc : Nat → Int} {fr to : Nat} (hR : rowOk rs rc pool tape to) (hft : fr ≤ to) (h7 : to - fr ≤ 7) {t : Nat} (ht : t ≤ 89) : RUNM G l (d + 1) mX11_names [.ref x, .int (J (t : Int)), .ref (mAd x rs), .int (J (fr : Int)), .int (J (to : Int))] h (fun v h' => v = none ∧ isM h' x (mFs x f4 f6 f8 f9 f10 f11 f12 f13 f14 f16 f18 s) (namesM m rc t fr to) kp was pool tape pln pap rwd rw ∧ Same (mBlk x) h h') := by
  dsimp only [mFs] at hB
  refine RUNM.of (by decide +kernel) (Nat.le_of_ble_eq_true rfl) ?_
  have hto : to ≤ 12342 := by rcases hR with ⟨-, -, g⟩ | ⟨-, -, g⟩ <;> omega
  refine r_aload_n (pc := 0) dX11_names_0 rfl (by first | rfl | exact isRefV_rf _) ?_
  refine rm_getf (pc := 1) dX11_names_1 fX11_11 (by assumption) rfl ?_
  refine r_iload_n (pc := 4) dX11_names_4 rfl ?_
  refine rj_iconst (pc := 5) dX11_names_5 ?_
  refine rj_iconst (pc := 6) dX11_names_6 ?_
  refine r_callS3 (pc := 7) dX11_names_7 qX11_ofThing kX11_54 sX11_ofThing (Nat.le_of_ble_eq_true rfl) (m_ofThing d) (fun v_7 h_7 q_7 => ?_)
  obtain ⟨rfl, rfl⟩ := q_7
  refine r_iload (pc := 10) dX11_names_10 rfl ?_
  refine r_iload_n (pc := 12) dX11_names_12 rfl ?_
  refine rj_isub (pc := 13) dX11_names_13 ?_
  first | refine rm_iast0 (pc := 14) (j := 261 + 14 * t) dX11_names_14 (by assumption) (by first | assumption | exact b01_r | exact bz_r | omega | (constructor <;> omega) | exact hM _ | exact hPo _ | exact hTa _ | exact hRo _) (by first | assumption | exact b01_r | exact bz_r | omega | (constructor <;> omega) | exact hM _ | exact hPo _ | exact hTa _ | exact hRo _) (by first | assumption | exact b01_r | exact bz_r | omega | (constructor <;> omega) | exact hM _ | exact hPo _ | exact hTa _ | exact hRo _) (by omega) (fun h_14 hB_14 hS_14 => ?_)
  refine r_iload_n (pc := 15) dX11_names_15 rfl ?_
  refine r_istore (pc := 16) dX11_names_16 (Nat.le_of_ble_eq_true rfl) ?_
  dsimp only [lsSt, List.set, mLs, mEnt]
  have z := L_names (G := G) (l := l) d hR hft h7 ht (to - fr) fr _ _ hB_14 (Nat.le_refl _) (by omega)
  exact z.mono (fun v h' g => ⟨g.1, g.2.1, hS_14.trans g.2.2⟩)
def takesM (m rc : Nat → Int) (N : Nat) (o : Int) (fr to : Nat) (p e : Int) : Nat → Int :=
  updI (updI (updI (namesM (updI (updI (updI (updI (updI m 1 (N + 1)) (258 + 14 * N) 0) (259 + 14 * N) o) 6 (m 6 + 1)) (260 + 14 * N) (m 6 + 1)) rc N fr to) (262 + 14 * N) p) (263 + 14 * N) e) (264 + 14 * N) (-5)
set_option maxHeartbeats 4000000 in
set_option maxRecDepth 100000 in
theorem m_takes {G : mG} {l : Launch} (d : Nat) {h : mH} {x s : Nat} {f4 f6 f8 f9 f10 f11 f12 f13 f14 f16 f18 : Int} {m kp was pool tape pln pap rwd rw : Nat → Int}(hB : isM h x (mFs x f4 f6 f8 f9 f10 f11 f12 f13 f14 f16 f18 s) m kp was pool tape pln pap rwd rw) {rs : Nat} {rc : Nat → Int} {fr to : Nat} (hR : rowOk rs rc pool tape to) (hft : fr ≤ to) (h7 : to - fr ≤ 7) {N : Nat} (hN : m 1 = (N : Int)) (hcap : N ≤ 89) {o p e : Int} : RUNM G l (d + 2) mX11_takes [.ref x, .int (J o), .ref (mAd x rs), .int (J (fr : Int)), .int (J (to : Int)), .int (J p), .int (J e)] h (fun v h' => v = some (.int (J (N : Int))) ∧ isM h' x (mFs x f4 f6 f8 f9 f10 f11 f12 f13 f14 f16 f18 s) (takesM m rc N o fr to p e) kp was pool tape pln pap rwd rw ∧ Same (mBlk x) h h') := by
  dsimp only [mFs] at hB
  refine RUNM.of (by decide +kernel) (Nat.le_of_ble_eq_true rfl) ?_
  have r1 : InR (m 1) := ⟨by omega, by omega⟩
  refine r_aload_n (pc := 0) dX11_takes_0 rfl (by first | rfl | exact isRefV_rf _) ?_
  refine rm_getf (pc := 1) dX11_takes_1 fX11_11 (by assumption) rfl ?_
  refine rj_iconst (pc := 4) dX11_takes_4 ?_
  refine rj_iald (pc := 5) (j := 1) dX11_takes_5 (by first | exact isM.g0 (by assumption) | exact isM.g3 (by assumption) | exact isM.g4 (by assumption) | exact isM.g8 (by assumption) | exact isM.g7 (by assumption) | exact isM.g6 (by assumption) | exact isM.g5 (by assumption) | exact isM.g1 (by assumption) | exact isM.g2 (by assumption)) (by first | assumption | exact b01_r | exact bz_r | omega | (constructor <;> omega) | exact hM _ | exact hPo _ | exact hTa _ | exact hRo _) (by first | assumption | exact b01_r | exact bz_r | omega | (constructor <;> omega) | exact hM _ | exact hPo _ | exact hTa _ | exact hRo _) (by first | assumption | exact b01_r | exact bz_r | omega | (constructor <;> omega) | exact hM _ | exact hPo _ | exact hTa _ | exact hRo _) rfl ?_
  rw [hN]
  refine r_istore (pc := 6) dX11_takes_6 (Nat.le_of_ble_eq_true rfl) ?_
  dsimp only [lsSt, List.set, mLs, mEnt]
  refine r_aload_n (pc := 8) dX11_takes_8 rfl (by first | rfl | exact isRefV_rf _) ?_
  refine rm_getf (pc := 9) dX11_takes_9 fX11_11 (by assumption) rfl ?_
  refine rj_iconst (pc := 12) dX11_takes_12 ?_
  refine r_dup2 (pc := 13) dX11_takes_13 rfl rfl ?_
  refine rj_iald (pc := 14) (j := 1) dX11_takes_14 (by first | exact isM.g0 (by assumption) | exact isM.g3 (by assumption) | exact isM.g4 (by assumption) | exact isM.g8 (by assumption) | exact isM.g7 (by assumption) | exact isM.g6 (by assumption) | exact isM.g5 (by assumption) | exact isM.g1 (by assumption) | exact isM.g2 (by assumption)) (by first | assumption | exact b01_r | exact bz_r | omega | (constructor <;> omega) | exact hM _ | exact hPo _ | exact hTa _ | exact hRo _) (by first | assumption | exact b01_r | exact bz_r | omega | (constructor <;> omega) | exact hM _ | exact hPo _ | exact hTa _ | exact hRo _) (by first | assumption | exact b01_r | exact bz_r | omega | (constructor <;> omega) | exact hM _ | exact hPo _ | exact hTa _ | exact hRo _) rfl ?_
  refine rj_iconst (pc := 15) dX11_takes_15 ?_
  refine rj_iadd (pc := 16) dX11_takes_16 ?_
  rw [hN]
  first | refine rm_iast0 (pc := 17) (j := 1) dX11_takes_17 (by assumption) (by first | assumption | exact b01_r | exact bz_r | omega | (constructor <;> omega) | exact hM _ | exact hPo _ | exact hTa _ | exact hRo _) (by first | assumption | exact b01_r | exact bz_r | omega | (constructor <;> omega) | exact hM _ | exact hPo _ | exact hTa _ | exact hRo _) (by first | assumption | exact b01_r | exact bz_r | omega | (constructor <;> omega) | exact hM _ | exact hPo _ | exact hTa _ | exact hRo _) (by omega) (fun h_17 hB_17 hS_17 => ?_)
  refine r_aload_n (pc := 18) dX11_takes_18 rfl (by first | rfl | exact isRefV_rf _) ?_
  refine rm_getf (pc := 19) dX11_takes_19 fX11_11 (by assumption) rfl ?_
  refine r_iload (pc := 22) dX11_takes_22 rfl ?_
  refine rj_iconst (pc := 24) dX11_takes_24 ?_
  refine rj_iconst (pc := 25) dX11_takes_25 ?_
  refine r_callS3 (pc := 26) dX11_takes_26 qX11_ofThing kX11_54 sX11_ofThing (Nat.le_of_ble_eq_true rfl) (m_ofThing (d + 1)) (fun v_26 h_26 q_26 => ?_)
  obtain ⟨rfl, rfl⟩ := q_26
  refine rj_iconst (pc := 29) dX11_takes_29 ?_
  first | refine rm_iast0 (pc := 30) (j := 258 + 14 * N) dX11_takes_30 (by assumption) (by first | assumption | exact b01_r | exact bz_r | omega | (constructor <;> omega) | exact hM _ | exact hPo _ | exact hTa _ | exact hRo _) (by first | assumption | exact b01_r | exact bz_r | omega | (constructor <;> omega) | exact hM _ | exact hPo _ | exact hTa _ | exact hRo _) (by first | assumption | exact b01_r | exact bz_r | omega | (constructor <;> omega) | exact hM _ | exact hPo _ | exact hTa _ | exact hRo _) (by omega) (fun h_30 hB_30 hS_30 => ?_)
  refine r_aload_n (pc := 31) dX11_takes_31 rfl (by first | rfl | exact isRefV_rf _) ?_
  refine rm_getf (pc := 32) dX11_takes_32 fX11_11 (by assumption) rfl ?_
  refine r_iload (pc := 35) dX11_takes_35 rfl ?_
  refine rj_iconst (pc := 37) dX11_takes_37 ?_
  refine rj_iconst (pc := 38) dX11_takes_38 ?_
  refine r_callS3 (pc := 39) dX11_takes_39 qX11_ofThing kX11_54 sX11_ofThing (Nat.le_of_ble_eq_true rfl) (m_ofThing (d + 1)) (fun v_39 h_39 q_39 => ?_)
  obtain ⟨rfl, rfl⟩ := q_39
  refine r_iload_n (pc := 42) dX11_takes_42 rfl ?_
  first | refine rm_iast0 (pc := 43) (j := 259 + 14 * N) dX11_takes_43 (by assumption) (by first | assumption | exact b01_r | exact bz_r | omega | (constructor <;> omega) | exact hM _ | exact hPo _ | exact hTa _ | exact hRo _) (by first | assumption | exact b01_r | exact bz_r | omega | (constructor <;> omega) | exact hM _ | exact hPo _ | exact hTa _ | exact hRo _) (by first | assumption | exact b01_r | exact bz_r | omega | (constructor <;> omega) | exact hM _ | exact hPo _ | exact hTa _ | exact hRo _) (by omega) (fun h_43 hB_43 hS_43 => ?_)
  refine r_aload_n (pc := 44) dX11_takes_44 rfl (by first | rfl | exact isRefV_rf _) ?_
  refine rm_getf (pc := 45) dX11_takes_45 fX11_11 (by assumption) rfl ?_
  refine r_iload (pc := 48) dX11_takes_48 rfl ?_
  refine rj_iconst (pc := 50) dX11_takes_50 ?_
  refine rj_iconst (pc := 51) dX11_takes_51 ?_
  refine r_callS3 (pc := 52) dX11_takes_52 qX11_ofThing kX11_54 sX11_ofThing (Nat.le_of_ble_eq_true rfl) (m_ofThing (d + 1)) (fun v_52 h_52 q_52 => ?_)
  obtain ⟨rfl, rfl⟩ := q_52
  refine r_aload_n (pc := 55) dX11_takes_55 rfl (by first | rfl | exact isRefV_rf _) ?_
  refine r_callV0 (pc := 56) dX11_takes_56 qX11_stamp kX11_126 vX11_stamp (by exact isM.gx (by assumption)) rfl rfl (Nat.le_of_ble_eq_true rfl) (m_stamp (d + 1) hB_43) (fun v_56 h_56 q_56 => ?_)
  obtain ⟨rfl, hB_56, hS_56⟩ := q_56
  rw [updI_n (by omega), updI_n (by omega), updI_n (by omega)] at hB_56 ⊢
  first | refine rm_iast0 (pc := 59) (j := 260 + 14 * N) dX11_takes_59 (by assumption) (by first | assumption | exact b01_r | exact bz_r | omega | (constructor <;> omega) | exact hM _ | exact hPo _ | exact hTa _ | exact hRo _) (by first | assumption | exact b01_r | exact bz_r | omega | (constructor <;> omega) | exact hM _ | exact hPo _ | exact hTa _ | exact hRo _) (by first | assumption | exact b01_r | exact bz_r | omega | (constructor <;> omega) | exact hM _ | exact hPo _ | exact hTa _ | exact hRo _) (by omega) (fun h_59 hB_59 hS_59 => ?_)
  refine r_aload_n (pc := 60) dX11_takes_60 rfl (by first | rfl | exact isRefV_rf _) ?_
  refine r_iload (pc := 61) dX11_takes_61 rfl ?_
  refine r_aload_n (pc := 63) dX11_takes_63 rfl (by first | rfl | exact isRefV_rf _) ?_
  refine r_iload_n (pc := 64) dX11_takes_64 rfl ?_
  refine r_iload (pc := 65) dX11_takes_65 rfl ?_
  refine r_callV4 (pc := 67) dX11_takes_67 qX11_names kX11_129 vX11_names (by exact isM.gx (by assumption)) rfl rfl (Nat.le_of_ble_eq_true rfl) (m_names d hB_59 hR hft h7 (by omega)) (fun v_67 h_67 q_67 => ?_)
  obtain ⟨rfl, hB_67, hS_67⟩ := q_67
  refine r_aload_n (pc := 70) dX11_takes_70 rfl (by first | rfl | exact isRefV_rf _) ?_
  refine rm_getf (pc := 71) dX11_takes_71 fX11_11 (by assumption) rfl ?_
  refine r_iload (pc := 74) dX11_takes_74 rfl ?_
  refine rj_iconst (pc := 76) dX11_takes_76 ?_
  refine rj_iconst (pc := 77) dX11_takes_77 ?_
  refine r_callS3 (pc := 78) dX11_takes_78 qX11_ofThing kX11_54 sX11_ofThing (Nat.le_of_ble_eq_true rfl) (m_ofThing (d + 1)) (fun v_78 h_78 q_78 => ?_)
  obtain ⟨rfl, rfl⟩ := q_78
  refine r_iload (pc := 81) dX11_takes_81 rfl ?_
  first | refine rm_iast0 (pc := 83) (j := 262 + 14 * N) dX11_takes_83 (by assumption) (by first | assumption | exact b01_r | exact bz_r | omega | (constructor <;> omega) | exact hM _ | exact hPo _ | exact hTa _ | exact hRo _) (by first | assumption | exact b01_r | exact bz_r | omega | (constructor <;> omega) | exact hM _ | exact hPo _ | exact hTa _ | exact hRo _) (by first | assumption | exact b01_r | exact bz_r | omega | (constructor <;> omega) | exact hM _ | exact hPo _ | exact hTa _ | exact hRo _) (by omega) (fun h_83 hB_83 hS_83 => ?_)
  refine r_aload_n (pc := 84) dX11_takes_84 rfl (by first | rfl | exact isRefV_rf _) ?_
  refine rm_getf (pc := 85) dX11_takes_85 fX11_11 (by assumption) rfl ?_
  refine r_iload (pc := 88) dX11_takes_88 rfl ?_
  refine rj_iconst (pc := 90) dX11_takes_90 ?_
  refine rj_iconst (pc := 91) dX11_takes_91 ?_
  refine r_callS3 (pc := 92) dX11_takes_92 qX11_ofThing kX11_54 sX11_ofThing (Nat.le_of_ble_eq_true rfl) (m_ofThing (d + 1)) (fun v_92 h_92 q_92 => ?_)
  obtain ⟨rfl, rfl⟩ := q_92
  refine r_iload (pc := 95) dX11_takes_95 rfl ?_
  first | refine rm_iast0 (pc := 97) (j := 263 + 14 * N) dX11_takes_97 (by assumption) (by first | assumption | exact b01_r | exact bz_r | omega | (constructor <;> omega) | exact hM _ | exact hPo _ | exact hTa _ | exact hRo _) (by first | assumption | exact b01_r | exact bz_r | omega | (constructor <;> omega) | exact hM _ | exact hPo _ | exact hTa _ | exact hRo _) (by first | assumption | exact b01_r | exact bz_r | omega | (constructor <;> omega) | exact hM _ | exact hPo _ | exact hTa _ | exact hRo _) (by omega) (fun h_97 hB_97 hS_97 => ?_)
  refine r_aload_n (pc := 98) dX11_takes_98 rfl (by first | rfl | exact isRefV_rf _) ?_
  refine rm_getf (pc := 99) dX11_takes_99 fX11_11 (by assumption) rfl ?_
  refine r_iload (pc := 102) dX11_takes_102 rfl ?_
  refine rj_bipush (pc := 104) dX11_takes_104 (by decide +kernel) ?_
  refine rj_iconst (pc := 106) dX11_takes_106 ?_
  refine r_callS3 (pc := 107) dX11_takes_107 qX11_ofThing kX11_54 sX11_ofThing (Nat.le_of_ble_eq_true rfl) (m_ofThing (d + 1)) (fun v_107 h_107 q_107 => ?_)
  obtain ⟨rfl, rfl⟩ := q_107
  refine rj_bipush (pc := 110) dX11_takes_110 (by decide +kernel) ?_
  first | refine rm_iast0 (pc := 112) (j := 264 + 14 * N) dX11_takes_112 (by assumption) (by first | assumption | exact b01_r | exact bz_r | omega | (constructor <;> omega) | exact hM _ | exact hPo _ | exact hTa _ | exact hRo _) (by first | assumption | exact b01_r | exact bz_r | omega | (constructor <;> omega) | exact hM _ | exact hPo _ | exact hTa _ | exact hRo _) (by first | assumption | exact b01_r | exact bz_r | omega | (constructor <;> omega) | exact hM _ | exact hPo _ | exact hTa _ | exact hRo _) (by omega) (fun h_112 hB_112 hS_112 => ?_)
  refine r_iload (pc := 113) dX11_takes_113 rfl ?_
  refine r_ireturn (pc := 115) .int dX11_takes_115 rfl (by first | rfl | assumption) ?_
  exact ⟨rfl, hB_112, ((((((((hS_17.trans hS_30).trans hS_43).trans hS_56).trans hS_59).trans hS_67).trans hS_83).trans hS_97).trans hS_112)⟩
def gathersM (m : Nat → Int) (sink f t : Int) : Nat → Int :=
  if sink < 0 then updI (updI (updI m (2688 + 2 * m 5).toNat f) (2689 + 2 * m 5).toNat t) 5 (m 5 + 1)
  else updI (updI (updI (updI m (2328 + 3 * m 4).toNat sink) (2329 + 3 * m 4).toNat f) (2330 + 3 * m 4).toNat t) 4 (m 4 + 1)
set_option maxHeartbeats 4000000 in
set_option maxRecDepth 100000 in
theorem m_gathers {G : mG} {l : Launch} (d : Nat) {h : mH} {x s : Nat} {f4 f6 f8 f9 f10 f11 f12 f13 f14 f16 f18 : Int} {m kp was pool tape pln pap rwd rw : Nat → Int}(hB : isM h x (mFs x f4 f6 f8 f9 f10 f11 f12 f13 f14 f16 f18 s) m kp was pool tape pln pap rwd rw) {f t : Int} (hs : InR f14) (h5 : 0 ≤ m 5) (h5b : m 5 ≤ 119) (h4 : 0 ≤ m 4) (h4b : m 4 ≤ 119) : RUNM G l (d) mX11_gathers [.ref x, .int (J f), .int (J t)] h (fun v h' => v = none ∧ isM h' x (mFs x f4 f6 f8 f9 f10 f11 f12 f13 f14 f16 f18 s) (gathersM m f14 f t) kp was pool tape pln pap rwd rw ∧ Same (mBlk x) h h') := by
  dsimp only [mFs] at hB
  refine RUNM.of (by decide +kernel) (Nat.le_of_ble_eq_true rfl) ?_
  refine r_aload_n (pc := 0) dX11_gathers_0 rfl (by first | rfl | exact isRefV_rf _) ?_
  refine rm_getf (pc := 1) dX11_gathers_1 fX11_133 (by assumption) rfl ?_
  refine rj_if_ge (pc := 4) (tgt := 56) dX11_gathers_4 (by decide) (by first | assumption | exact b01_r | exact bz_r | omega | (constructor <;> omega) | exact hM _ | exact hPo _ | exact hTa _ | exact hRo _) (fun c_4 => ?_) (fun c_4 => ?_)
  · refine rj_sipush (pc := 56) dX11_gathers_56 (by decide +kernel) ?_
    refine rj_iconst (pc := 59) dX11_gathers_59 ?_
    refine r_aload_n (pc := 60) dX11_gathers_60 rfl (by first | rfl | exact isRefV_rf _) ?_
    refine rm_getf (pc := 61) dX11_gathers_61 fX11_11 (by assumption) rfl ?_
    refine rj_iconst (pc := 64) dX11_gathers_64 ?_
    refine rj_iald (pc := 65) (j := 4) dX11_gathers_65 (by first | exact isM.g0 (by assumption) | exact isM.g3 (by assumption) | exact isM.g4 (by assumption) | exact isM.g8 (by assumption) | exact isM.g7 (by assumption) | exact isM.g6 (by assumption) | exact isM.g5 (by assumption) | exact isM.g1 (by assumption) | exact isM.g2 (by assumption)) (by first | assumption | exact b01_r | exact bz_r | omega | (constructor <;> omega) | exact hM _ | exact hPo _ | exact hTa _ | exact hRo _) (by first | assumption | exact b01_r | exact bz_r | omega | (constructor <;> omega) | exact hM _ | exact hPo _ | exact hTa _ | exact hRo _) (by first | assumption | exact b01_r | exact bz_r | omega | (constructor <;> omega) | exact hM _ | exact hPo _ | exact hTa _ | exact hRo _) rfl ?_
    refine rj_imul (pc := 66) dX11_gathers_66 ?_
    refine rj_iadd (pc := 67) dX11_gathers_67 ?_
    refine r_istore_n (pc := 68) dX11_gathers_68 (Nat.le_of_ble_eq_true rfl) ?_
    dsimp only [lsSt, List.set, mLs, mEnt]
    refine r_aload_n (pc := 69) dX11_gathers_69 rfl (by first | rfl | exact isRefV_rf _) ?_
    refine rm_getf (pc := 70) dX11_gathers_70 fX11_11 (by assumption) rfl ?_
    refine r_iload_n (pc := 73) dX11_gathers_73 rfl ?_
    refine r_aload_n (pc := 74) dX11_gathers_74 rfl (by first | rfl | exact isRefV_rf _) ?_
    refine rm_getf (pc := 75) dX11_gathers_75 fX11_133 (by assumption) rfl ?_
    first | refine rm_iast0 (pc := 78) (j := (2328 + 3 * m 4).toNat) dX11_gathers_78 (by assumption) (by first | assumption | exact b01_r | exact bz_r | omega | (constructor <;> omega) | exact hM _ | exact hPo _ | exact hTa _ | exact hRo _) (by first | assumption | exact b01_r | exact bz_r | omega | (constructor <;> omega) | exact hM _ | exact hPo _ | exact hTa _ | exact hRo _) (by first | assumption | exact b01_r | exact bz_r | omega | (constructor <;> omega) | exact hM _ | exact hPo _ | exact hTa _ | exact hRo _) (by omega) (fun h_78 hB_78 hS_78 => ?_)
    refine r_aload_n (pc := 79) dX11_gathers_79 rfl (by first | rfl | exact isRefV_rf _) ?_
    refine rm_getf (pc := 80) dX11_gathers_80 fX11_11 (by assumption) rfl ?_
    refine r_iload_n (pc := 83) dX11_gathers_83 rfl ?_
    refine rj_iconst (pc := 84) dX11_gathers_84 ?_
    refine rj_iadd (pc := 85) dX11_gathers_85 ?_
    refine r_iload_n (pc := 86) dX11_gathers_86 rfl ?_
    first | refine rm_iast0 (pc := 87) (j := (2329 + 3 * m 4).toNat) dX11_gathers_87 (by assumption) (by first | assumption | exact b01_r | exact bz_r | omega | (constructor <;> omega) | exact hM _ | exact hPo _ | exact hTa _ | exact hRo _) (by first | assumption | exact b01_r | exact bz_r | omega | (constructor <;> omega) | exact hM _ | exact hPo _ | exact hTa _ | exact hRo _) (by first | assumption | exact b01_r | exact bz_r | omega | (constructor <;> omega) | exact hM _ | exact hPo _ | exact hTa _ | exact hRo _) (by omega) (fun h_87 hB_87 hS_87 => ?_)
    refine r_aload_n (pc := 88) dX11_gathers_88 rfl (by first | rfl | exact isRefV_rf _) ?_
    refine rm_getf (pc := 89) dX11_gathers_89 fX11_11 (by assumption) rfl ?_
    refine r_iload_n (pc := 92) dX11_gathers_92 rfl ?_
    refine rj_iconst (pc := 93) dX11_gathers_93 ?_
    refine rj_iadd (pc := 94) dX11_gathers_94 ?_
    refine r_iload_n (pc := 95) dX11_gathers_95 rfl ?_
    first | refine rm_iast0 (pc := 96) (j := (2330 + 3 * m 4).toNat) dX11_gathers_96 (by assumption) (by first | assumption | exact b01_r | exact bz_r | omega | (constructor <;> omega) | exact hM _ | exact hPo _ | exact hTa _ | exact hRo _) (by first | assumption | exact b01_r | exact bz_r | omega | (constructor <;> omega) | exact hM _ | exact hPo _ | exact hTa _ | exact hRo _) (by first | assumption | exact b01_r | exact bz_r | omega | (constructor <;> omega) | exact hM _ | exact hPo _ | exact hTa _ | exact hRo _) (by omega) (fun h_96 hB_96 hS_96 => ?_)
    refine r_aload_n (pc := 97) dX11_gathers_97 rfl (by first | rfl | exact isRefV_rf _) ?_
    refine rm_getf (pc := 98) dX11_gathers_98 fX11_11 (by assumption) rfl ?_
    refine rj_iconst (pc := 101) dX11_gathers_101 ?_
    refine r_dup2 (pc := 102) dX11_gathers_102 rfl rfl ?_
    refine rj_iald (pc := 103) (j := 4) dX11_gathers_103 (by first | exact isM.g0 (by assumption) | exact isM.g3 (by assumption) | exact isM.g4 (by assumption) | exact isM.g8 (by assumption) | exact isM.g7 (by assumption) | exact isM.g6 (by assumption) | exact isM.g5 (by assumption) | exact isM.g1 (by assumption) | exact isM.g2 (by assumption)) (by first | assumption | exact b01_r | exact bz_r | omega | (constructor <;> omega) | exact hM _ | exact hPo _ | exact hTa _ | exact hRo _) (by first | assumption | exact b01_r | exact bz_r | omega | (constructor <;> omega) | exact hM _ | exact hPo _ | exact hTa _ | exact hRo _) (by first | assumption | exact b01_r | exact bz_r | omega | (constructor <;> omega) | exact hM _ | exact hPo _ | exact hTa _ | exact hRo _) rfl ?_
    rw [updI_n (by omega), updI_n (by omega), updI_n (by omega)]
    refine rj_iconst (pc := 104) dX11_gathers_104 ?_
    refine rj_iadd (pc := 105) dX11_gathers_105 ?_
    first | refine rm_iast0 (pc := 106) (j := 4) dX11_gathers_106 (by assumption) (by first | assumption | exact b01_r | exact bz_r | omega | (constructor <;> omega) | exact hM _ | exact hPo _ | exact hTa _ | exact hRo _) (by first | assumption | exact b01_r | exact bz_r | omega | (constructor <;> omega) | exact hM _ | exact hPo _ | exact hTa _ | exact hRo _) (by first | assumption | exact b01_r | exact bz_r | omega | (constructor <;> omega) | exact hM _ | exact hPo _ | exact hTa _ | exact hRo _) (by omega) (fun h_106 hB_106 hS_106 => ?_)
    refine r_return (pc := 107) dX11_gathers_107 rfl ?_
    exact ⟨rfl, by unfold gathersM; rw [if_neg (by omega)]; exact hB_106, ((hS_78.trans hS_87).trans hS_96).trans hS_106⟩
  · refine r_aload_n (pc := 7) dX11_gathers_7 rfl (by first | rfl | exact isRefV_rf _) ?_
    refine rm_getf (pc := 8) dX11_gathers_8 fX11_11 (by assumption) rfl ?_
    refine rj_sipush (pc := 11) dX11_gathers_11 (by decide +kernel) ?_
    refine rj_iconst (pc := 14) dX11_gathers_14 ?_
    refine r_aload_n (pc := 15) dX11_gathers_15 rfl (by first | rfl | exact isRefV_rf _) ?_
    refine rm_getf (pc := 16) dX11_gathers_16 fX11_11 (by assumption) rfl ?_
    refine rj_iconst (pc := 19) dX11_gathers_19 ?_
    refine rj_iald (pc := 20) (j := 5) dX11_gathers_20 (by first | exact isM.g0 (by assumption) | exact isM.g3 (by assumption) | exact isM.g4 (by assumption) | exact isM.g8 (by assumption) | exact isM.g7 (by assumption) | exact isM.g6 (by assumption) | exact isM.g5 (by assumption) | exact isM.g1 (by assumption) | exact isM.g2 (by assumption)) (by first | assumption | exact b01_r | exact bz_r | omega | (constructor <;> omega) | exact hM _ | exact hPo _ | exact hTa _ | exact hRo _) (by first | assumption | exact b01_r | exact bz_r | omega | (constructor <;> omega) | exact hM _ | exact hPo _ | exact hTa _ | exact hRo _) (by first | assumption | exact b01_r | exact bz_r | omega | (constructor <;> omega) | exact hM _ | exact hPo _ | exact hTa _ | exact hRo _) rfl ?_
    refine rj_imul (pc := 21) dX11_gathers_21 ?_
    refine rj_iadd (pc := 22) dX11_gathers_22 ?_
    refine r_iload_n (pc := 23) dX11_gathers_23 rfl ?_
    first | refine rm_iast0 (pc := 24) (j := (2688 + 2 * m 5).toNat) dX11_gathers_24 (by assumption) (by first | assumption | exact b01_r | exact bz_r | omega | (constructor <;> omega) | exact hM _ | exact hPo _ | exact hTa _ | exact hRo _) (by first | assumption | exact b01_r | exact bz_r | omega | (constructor <;> omega) | exact hM _ | exact hPo _ | exact hTa _ | exact hRo _) (by first | assumption | exact b01_r | exact bz_r | omega | (constructor <;> omega) | exact hM _ | exact hPo _ | exact hTa _ | exact hRo _) (by omega) (fun h_24 hB_24 hS_24 => ?_)
    refine r_aload_n (pc := 25) dX11_gathers_25 rfl (by first | rfl | exact isRefV_rf _) ?_
    refine rm_getf (pc := 26) dX11_gathers_26 fX11_11 (by assumption) rfl ?_
    refine rj_sipush (pc := 29) dX11_gathers_29 (by decide +kernel) ?_
    refine rj_iconst (pc := 32) dX11_gathers_32 ?_
    refine r_aload_n (pc := 33) dX11_gathers_33 rfl (by first | rfl | exact isRefV_rf _) ?_
    refine rm_getf (pc := 34) dX11_gathers_34 fX11_11 (by assumption) rfl ?_
    refine rj_iconst (pc := 37) dX11_gathers_37 ?_
    refine rj_iald (pc := 38) (j := 5) dX11_gathers_38 (by first | exact isM.g0 (by assumption) | exact isM.g3 (by assumption) | exact isM.g4 (by assumption) | exact isM.g8 (by assumption) | exact isM.g7 (by assumption) | exact isM.g6 (by assumption) | exact isM.g5 (by assumption) | exact isM.g1 (by assumption) | exact isM.g2 (by assumption)) (by first | assumption | exact b01_r | exact bz_r | omega | (constructor <;> omega) | exact hM _ | exact hPo _ | exact hTa _ | exact hRo _) (by first | assumption | exact b01_r | exact bz_r | omega | (constructor <;> omega) | exact hM _ | exact hPo _ | exact hTa _ | exact hRo _) (by first | assumption | exact b01_r | exact bz_r | omega | (constructor <;> omega) | exact hM _ | exact hPo _ | exact hTa _ | exact hRo _) rfl ?_
    refine rj_imul (pc := 39) dX11_gathers_39 ?_
    refine rj_iadd (pc := 40) dX11_gathers_40 ?_
    rw [updI_n (by omega)]
    refine rj_iconst (pc := 41) dX11_gathers_41 ?_
    refine rj_iadd (pc := 42) dX11_gathers_42 ?_
    refine r_iload_n (pc := 43) dX11_gathers_43 rfl ?_
    first | refine rm_iast0 (pc := 44) (j := (2689 + 2 * m 5).toNat) dX11_gathers_44 (by assumption) (by first | assumption | exact b01_r | exact bz_r | omega | (constructor <;> omega) | exact hM _ | exact hPo _ | exact hTa _ | exact hRo _) (by first | assumption | exact b01_r | exact bz_r | omega | (constructor <;> omega) | exact hM _ | exact hPo _ | exact hTa _ | exact hRo _) (by first | assumption | exact b01_r | exact bz_r | omega | (constructor <;> omega) | exact hM _ | exact hPo _ | exact hTa _ | exact hRo _) (by omega) (fun h_44 hB_44 hS_44 => ?_)
    refine r_aload_n (pc := 45) dX11_gathers_45 rfl (by first | rfl | exact isRefV_rf _) ?_
    refine rm_getf (pc := 46) dX11_gathers_46 fX11_11 (by assumption) rfl ?_
    refine rj_iconst (pc := 49) dX11_gathers_49 ?_
    refine r_dup2 (pc := 50) dX11_gathers_50 rfl rfl ?_
    refine rj_iald (pc := 51) (j := 5) dX11_gathers_51 (by first | exact isM.g0 (by assumption) | exact isM.g3 (by assumption) | exact isM.g4 (by assumption) | exact isM.g8 (by assumption) | exact isM.g7 (by assumption) | exact isM.g6 (by assumption) | exact isM.g5 (by assumption) | exact isM.g1 (by assumption) | exact isM.g2 (by assumption)) (by first | assumption | exact b01_r | exact bz_r | omega | (constructor <;> omega) | exact hM _ | exact hPo _ | exact hTa _ | exact hRo _) (by first | assumption | exact b01_r | exact bz_r | omega | (constructor <;> omega) | exact hM _ | exact hPo _ | exact hTa _ | exact hRo _) (by first | assumption | exact b01_r | exact bz_r | omega | (constructor <;> omega) | exact hM _ | exact hPo _ | exact hTa _ | exact hRo _) rfl ?_
    rw [updI_n (by omega), updI_n (by omega)]
    refine rj_iconst (pc := 52) dX11_gathers_52 ?_
    refine rj_iadd (pc := 53) dX11_gathers_53 ?_
    first | refine rm_iast0 (pc := 54) (j := 5) dX11_gathers_54 (by assumption) (by first | assumption | exact b01_r | exact bz_r | omega | (constructor <;> omega) | exact hM _ | exact hPo _ | exact hTa _ | exact hRo _) (by first | assumption | exact b01_r | exact bz_r | omega | (constructor <;> omega) | exact hM _ | exact hPo _ | exact hTa _ | exact hRo _) (by first | assumption | exact b01_r | exact bz_r | omega | (constructor <;> omega) | exact hM _ | exact hPo _ | exact hTa _ | exact hRo _) (by omega) (fun h_54 hB_54 hS_54 => ?_)
    refine r_return (pc := 55) dX11_gathers_55 rfl ?_
    exact ⟨rfl, by unfold gathersM; rw [if_pos (by omega)]; exact hB_54, (hS_24.trans hS_44).trans hS_54⟩
