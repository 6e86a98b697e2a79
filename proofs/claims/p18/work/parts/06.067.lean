section mg_29
set_option maxHeartbeats 4000000 in
set_option maxRecDepth 100000 in
theorem L_isNamed {G : mG} {l : Launch} (d : Nat) {h : mH} {x s : Nat} {f4 f6 f8 f9 f10 f11 f12 f13 f14 f16 f18 : Int} {m kp was pool tape pln pap rwd rw : Nat → Int}(hB : isM h x (mFs x f4 f6 f8 f9 f10 f11 f12 f13 f14 f16 f18 s) m kp was pool tape pln pap rwd rw) (hM : ∀ q, InR (m q)) {rs : Nat} {rc : Nat → Int} {fr to : Nat} (hR : rowOk rs rc pool tape to) (hft : fr ≤ to) (hRo : ∀ q, InR (rc q)) {t : Nat} (ht : t ≤ 89) (h7 : to - fr ≤ 7) : ∀ n k : Nat, fr ≤ k → k + n = to → RUN G l (d + 1) mX11_isNamed 23 [some (.ref x), some (.int (J (t : Int))), some (.ref (mAd x rs)), some (.int (J (fr : Int))), some (.int (J (to : Int))), some (.int (J (k : Int)))] [] h (fun v h' => v = some (.int (J (bz (nmL m rc t fr n k)))) ∧ h' = h) := by
  dsimp only [mFs] at hB
  have hto : to ≤ 12342 := by rcases hR with ⟨-, -, g⟩ | ⟨-, -, g⟩ <;> omega
  obtain ⟨sz, hrow, hsz⟩ := isM.row hB hR
  intro n
  induction n with
  | zero =>
    intro k hk hn
    refine r_iload (pc := 23) dX11_isNamed_23 rfl ?_
    refine r_iload (pc := 25) dX11_isNamed_25 rfl ?_
    refine rj_icmp_ge (pc := 27) (tgt := 60) dX11_isNamed_27 (by decide) (by first | assumption | exact b01_r | exact bz_r | omega | (constructor <;> omega) | exact hM _ | exact hPo _ | exact hTa _ | exact hRo _) (by first | assumption | exact b01_r | exact bz_r | omega | (constructor <;> omega) | exact hM _ | exact hPo _ | exact hTa _ | exact hRo _) (fun c_27 => ?_) (fun c_27 => ?_)
    · refine rj_iconst (pc := 60) dX11_isNamed_60 ?_
      refine r_ireturn (pc := 61) .boolean dX11_isNamed_61 rfl (by first | exact nar_J0 | exact nar_J1 | exact nar_b01 | exact nar_bz) ?_
      exact ⟨bzT, rfl⟩
    · exfalso; omega
  | succ n ih =>
    intro k hk hn
    refine r_iload (pc := 23) dX11_isNamed_23 rfl ?_
    refine r_iload (pc := 25) dX11_isNamed_25 rfl ?_
    refine rj_icmp_ge (pc := 27) (tgt := 60) dX11_isNamed_27 (by decide) (by first | assumption | exact b01_r | exact bz_r | omega | (constructor <;> omega) | exact hM _ | exact hPo _ | exact hTa _ | exact hRo _) (by first | assumption | exact b01_r | exact bz_r | omega | (constructor <;> omega) | exact hM _ | exact hPo _ | exact hTa _ | exact hRo _) (fun c_27 => ?_) (fun c_27 => ?_)
    · refine rj_iconst (pc := 60) dX11_isNamed_60 ?_
      refine r_ireturn (pc := 61) .boolean dX11_isNamed_61 rfl (by first | exact nar_J0 | exact nar_J1 | exact nar_b01 | exact nar_bz) ?_
      exfalso; omega
    · refine r_aload_n (pc := 30) dX11_isNamed_30 rfl (by first | rfl | exact isRefV_rf _) ?_
      refine rm_getf (pc := 31) dX11_isNamed_31 fX11_11 (by assumption) rfl ?_
      refine r_iload_n (pc := 34) dX11_isNamed_34 rfl ?_
      refine rj_bipush (pc := 35) dX11_isNamed_35 (by decide +kernel) ?_
      refine r_iload (pc := 37) dX11_isNamed_37 rfl ?_
      refine r_iload_n (pc := 39) dX11_isNamed_39 rfl ?_
      refine rj_isub (pc := 40) dX11_isNamed_40 ?_
      refine r_callS3 (pc := 41) dX11_isNamed_41 qX11_ofThing kX11_54 sX11_ofThing (Nat.le_of_ble_eq_true rfl) (m_ofThing d) (fun v_41 h_41 q_41 => ?_)
      obtain ⟨rfl, rfl⟩ := q_41
      refine rj_iald (pc := 44) (j := 265 + 14 * t + (k - fr)) dX11_isNamed_44 (by first | exact isM.g0 (by assumption) | exact isM.g3 (by assumption) | exact isM.g4 (by assumption) | exact isM.g8 (by assumption) | exact isM.g7 (by assumption) | exact isM.g6 (by assumption) | exact isM.g5 (by assumption) | exact isM.g1 (by assumption) | exact isM.g2 (by assumption)) (by first | assumption | exact b01_r | exact bz_r | omega | (constructor <;> omega) | exact hM _ | exact hPo _ | exact hTa _ | exact hRo _) (by first | assumption | exact b01_r | exact bz_r | omega | (constructor <;> omega) | exact hM _ | exact hPo _ | exact hTa _ | exact hRo _) (by first | assumption | exact b01_r | exact bz_r | omega | (constructor <;> omega) | exact hM _ | exact hPo _ | exact hTa _ | exact hRo _) (by omega) ?_
      refine r_aload_n (pc := 45) dX11_isNamed_45 rfl (by first | rfl | exact isRefV_rf _) ?_
      refine r_iload (pc := 46) dX11_isNamed_46 rfl ?_
      refine rj_iald (pc := 48) (j := k) dX11_isNamed_48 hrow (by constructor <;> omega) (by omega) (by omega) (by omega) ?_
      refine rj_icmp_eq (pc := 49) (tgt := 54) dX11_isNamed_49 (by decide) (by first | assumption | exact b01_r | exact bz_r | omega | (constructor <;> omega) | exact hM _ | exact hPo _ | exact hTa _ | exact hRo _) (by first | assumption | exact b01_r | exact bz_r | omega | (constructor <;> omega) | exact hM _ | exact hPo _ | exact hTa _ | exact hRo _) (fun c_49 => ?_) (fun c_49 => ?_)
      · refine rj_iinc (pc := 54) dX11_isNamed_54 (Nat.le_of_ble_eq_true rfl) rfl ?_
        dsimp only [lsSt, List.set, mLs, mEnt]
        refine r_goto (pc := 57) (tgt := 23) dX11_isNamed_57 (by decide) ?_
        have z := ih (k + 1) (by omega) (by omega)
        rw [nmL, if_pos c_49]
        exact z
      · refine rj_iconst (pc := 52) dX11_isNamed_52 ?_
        refine r_ireturn (pc := 53) .boolean dX11_isNamed_53 rfl (by first | exact nar_J0 | exact nar_J1 | exact nar_b01 | exact nar_bz) ?_
        exact ⟨by rw [nmL, if_neg c_49]; exact bzF, rfl⟩
end mg_29
