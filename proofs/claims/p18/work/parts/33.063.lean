section mg_43
set_option maxHeartbeats 4000000 in
set_option maxRecDepth 100000 in
theorem L_isFine {G : mG} {l : Launch} (d : Nat) {h : mH} {x s : Nat} {f4 f6 f8 f9 f10 f11 f12 f13 f14 f16 f18 : Int} {m kp was pool tape pln pap rwd rw : Nat → Int}(hB : isM h x (mFs x f4 f6 f8 f9 f10 f11 f12 f13 f14 f16 f18 s) m kp was pool tape pln pap rwd rw) (hM : ∀ q, InR (m q)) (h0 : 0 ≤ m 0 ∧ m 0 ≤ 60) {t : Int} (h1 : 0 ≤ t) (h2 : t ≤ 9) (hd : 0 ≤ m (1619 + 72 * t).toNat ∧ m (1619 + 72 * t).toNat ≤ 60) : ∀ (n k : Nat) (b : Bool), (k : Int) + n = m (1619 + 72 * t).toNat → RUN G l (d + 3) mX11_isFine 23 [some (.ref x), some (.int (J t)), some (.int (J (bz b))), some (.int (J (k : Int)))] [] h (fun v h' => v = some (.int (J (bz (fineL m t n k b)))) ∧ h' = h) := by
  have hB0 := hB
  dsimp only [mFs] at hB
  intro n
  induction n with
  | zero =>
    intro k b hk
    refine r_iload_n (pc := 23) dX11_isFine_23 rfl ?_
    refine r_aload_n (pc := 24) dX11_isFine_24 rfl (by first | rfl | exact isRefV_rf _) ?_
    refine rm_getf (pc := 25) dX11_isFine_25 fX11_11 (by assumption) rfl ?_
    refine r_iload_n (pc := 28) dX11_isFine_28 rfl ?_
    refine rj_bipush (pc := 29) dX11_isFine_29 (by decide +kernel) ?_
    refine rj_iconst (pc := 31) dX11_isFine_31 ?_
    refine r_callS3 (pc := 32) dX11_isFine_32 qX11_ofTask kX11_58 sX11_ofTask (Nat.le_of_ble_eq_true rfl) (m_ofTask (d + 2)) (fun v_32 h_32 q_32 => ?_)
    obtain ⟨rfl, rfl⟩ := q_32
    refine rj_iald (pc := 35) (j := (1619 + 72 * t).toNat) dX11_isFine_35 (by first | exact isM.g0 (by assumption) | exact isM.g3 (by assumption) | exact isM.g4 (by assumption) | exact isM.g8 (by assumption) | exact isM.g7 (by assumption) | exact isM.g6 (by assumption) | exact isM.g5 (by assumption) | exact isM.g1 (by assumption) | exact isM.g2 (by assumption)) (by first | assumption | exact b01_r | exact bz_r | omega | (constructor <;> omega) | exact hM _ | exact hPo _ | exact hTa _ | exact hRo _) (by first | assumption | exact b01_r | exact bz_r | omega | (constructor <;> omega) | exact hM _ | exact hPo _ | exact hTa _ | exact hRo _) (by first | assumption | exact b01_r | exact bz_r | omega | (constructor <;> omega) | exact hM _ | exact hPo _ | exact hTa _ | exact hRo _) (by omega) ?_
    refine rj_icmp_ge (pc := 36) (tgt := 64) dX11_isFine_36 (by decide) (by first | assumption | exact b01_r | exact bz_r | omega | (constructor <;> omega) | exact hM _ | exact hPo _ | exact hTa _ | exact hRo _) (by first | assumption | exact b01_r | exact bz_r | omega | (constructor <;> omega) | exact hM _ | exact hPo _ | exact hTa _ | exact hRo _) (fun c_36 => ?_) (fun c_36 => ?_)
    · refine r_iload_n (pc := 64) dX11_isFine_64 rfl ?_
      refine r_ireturn (pc := 65) .boolean dX11_isFine_65 rfl (by first | exact nar_J0 | exact nar_J1 | exact nar_b01 | exact nar_bz) ?_
      exact ⟨rfl, rfl⟩
    · exfalso; omega
  | succ n ih =>
    intro k b hk
    refine r_iload_n (pc := 23) dX11_isFine_23 rfl ?_
    refine r_aload_n (pc := 24) dX11_isFine_24 rfl (by first | rfl | exact isRefV_rf _) ?_
    refine rm_getf (pc := 25) dX11_isFine_25 fX11_11 (by assumption) rfl ?_
    refine r_iload_n (pc := 28) dX11_isFine_28 rfl ?_
    refine rj_bipush (pc := 29) dX11_isFine_29 (by decide +kernel) ?_
    refine rj_iconst (pc := 31) dX11_isFine_31 ?_
    refine r_callS3 (pc := 32) dX11_isFine_32 qX11_ofTask kX11_58 sX11_ofTask (Nat.le_of_ble_eq_true rfl) (m_ofTask (d + 2)) (fun v_32 h_32 q_32 => ?_)
    obtain ⟨rfl, rfl⟩ := q_32
    refine rj_iald (pc := 35) (j := (1619 + 72 * t).toNat) dX11_isFine_35 (by first | exact isM.g0 (by assumption) | exact isM.g3 (by assumption) | exact isM.g4 (by assumption) | exact isM.g8 (by assumption) | exact isM.g7 (by assumption) | exact isM.g6 (by assumption) | exact isM.g5 (by assumption) | exact isM.g1 (by assumption) | exact isM.g2 (by assumption)) (by first | assumption | exact b01_r | exact bz_r | omega | (constructor <;> omega) | exact hM _ | exact hPo _ | exact hTa _ | exact hRo _) (by first | assumption | exact b01_r | exact bz_r | omega | (constructor <;> omega) | exact hM _ | exact hPo _ | exact hTa _ | exact hRo _) (by first | assumption | exact b01_r | exact bz_r | omega | (constructor <;> omega) | exact hM _ | exact hPo _ | exact hTa _ | exact hRo _) (by omega) ?_
    refine rj_icmp_ge (pc := 36) (tgt := 64) dX11_isFine_36 (by decide) (by first | assumption | exact b01_r | exact bz_r | omega | (constructor <;> omega) | exact hM _ | exact hPo _ | exact hTa _ | exact hRo _) (by first | assumption | exact b01_r | exact bz_r | omega | (constructor <;> omega) | exact hM _ | exact hPo _ | exact hTa _ | exact hRo _) (fun c_36 => ?_) (fun c_36 => ?_)
    · refine r_iload_n (pc := 64) dX11_isFine_64 rfl ?_
      refine r_ireturn (pc := 65) .boolean dX11_isFine_65 rfl (by first | exact nar_J0 | exact nar_J1 | exact nar_b01 | exact nar_bz) ?_
      exfalso; omega
    · refine r_iload_n (pc := 39) dX11_isFine_39 rfl ?_
      refine r_aload_n (pc := 40) dX11_isFine_40 rfl (by first | rfl | exact isRefV_rf _) ?_
      refine r_aload_n (pc := 41) dX11_isFine_41 rfl (by first | rfl | exact isRefV_rf _) ?_
      refine rm_getf (pc := 42) dX11_isFine_42 fX11_11 (by assumption) rfl ?_
      refine r_iload_n (pc := 45) dX11_isFine_45 rfl ?_
      refine rj_bipush (pc := 46) dX11_isFine_46 (by decide +kernel) ?_
      refine r_iload_n (pc := 48) dX11_isFine_48 rfl ?_
      refine r_callS3 (pc := 49) dX11_isFine_49 qX11_ofTask kX11_58 sX11_ofTask (Nat.le_of_ble_eq_true rfl) (m_ofTask (d + 2)) (fun v_49 h_49 q_49 => ?_)
      obtain ⟨rfl, rfl⟩ := q_49
      refine rj_iald (pc := 52) (j := (1620 + 72 * t + (k : Int)).toNat) dX11_isFine_52 (by first | exact isM.g0 (by assumption) | exact isM.g3 (by assumption) | exact isM.g4 (by assumption) | exact isM.g8 (by assumption) | exact isM.g7 (by assumption) | exact isM.g6 (by assumption) | exact isM.g5 (by assumption) | exact isM.g1 (by assumption) | exact isM.g2 (by assumption)) (by first | assumption | exact b01_r | exact bz_r | omega | (constructor <;> omega) | exact hM _ | exact hPo _ | exact hTa _ | exact hRo _) (by first | assumption | exact b01_r | exact bz_r | omega | (constructor <;> omega) | exact hM _ | exact hPo _ | exact hTa _ | exact hRo _) (by first | assumption | exact b01_r | exact bz_r | omega | (constructor <;> omega) | exact hM _ | exact hPo _ | exact hTa _ | exact hRo _) (by omega) ?_
      refine r_callV1 (pc := 53) dX11_isFine_53 qX11_isOpen kX11_146 vX11_isOpen (by exact isM.gx (by assumption)) rfl rfl (Nat.le_of_ble_eq_true rfl) (m_isOpen d hB0 hM h0 (hM _)) (fun v_53 h_53 q_53 => ?_)
      obtain ⟨rfl, rfl⟩ := q_53
      rw [b01_z]
      refine rj_iandB (pc := 56) dX11_isFine_56 ?_
      refine r_istore_n (pc := 57) dX11_isFine_57 (Nat.le_of_ble_eq_true rfl) ?_
      dsimp only [lsSt, List.set, mLs, mEnt]
      refine rj_iinc (pc := 58) dX11_isFine_58 (Nat.le_of_ble_eq_true rfl) rfl ?_
      dsimp only [lsSt, List.set, mLs, mEnt]
      refine r_goto (pc := 61) (tgt := 23) dX11_isFine_61 (by decide) ?_
      exact ih (k + 1) _ (by omega)
end mg_43
