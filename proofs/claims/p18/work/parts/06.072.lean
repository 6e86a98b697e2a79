section mg_30
set_option maxHeartbeats 4000000 in
set_option maxRecDepth 100000 in
theorem L_names {G : mG} {l : Launch} (d : Nat) {x s : Nat} {f4 f6 f8 f9 f10 f11 f12 f13 f14 f16 f18 : Int} {kp was pool tape pln pap rwd rw : Nat → Int} {rs : Nat} {rc : Nat → Int} {fr to : Nat} (hR : rowOk rs rc pool tape to) (hft : fr ≤ to) (h7 : to - fr ≤ 7) {t : Nat} (ht : t ≤ 89) : ∀ (n k : Nat) (m : Nat → Int) (h : mH), isM h x (mFs x f4 f6 f8 f9 f10 f11 f12 f13 f14 f16 f18 s) m kp was pool tape pln pap rwd rw → fr ≤ k → k + n = to → RUN G l (d + 1) mX11_names 18 [some (.ref x), some (.int (J (t : Int))), some (.ref (mAd x rs)), some (.int (J (fr : Int))), some (.int (J (to : Int))), some (.int (J (k : Int)))] [] h (fun v h' => v = none ∧ isM h' x (mFs x f4 f6 f8 f9 f10 f11 f12 f13 f14 f16 f18 s) (nwL rc t fr n k m) kp was pool tape pln pap rwd rw ∧ Same (mBlk x) h h') := by
  have hto : to ≤ 12342 := by rcases hR with ⟨-, -, g⟩ | ⟨-, -, g⟩ <;> omega
  intro n
  induction n with
  | zero =>
    intro k m h hB hk hn
    have hB0 := hB
    dsimp only [mFs] at hB
    refine r_iload (pc := 18) dX11_names_18 rfl ?_
    refine r_iload (pc := 20) dX11_names_20 rfl ?_
    refine rj_icmp_ge (pc := 22) (tgt := 50) dX11_names_22 (by decide) (by first | assumption | exact b01_r | exact bz_r | omega | (constructor <;> omega) | exact hM _ | exact hPo _ | exact hTa _ | exact hRo _) (by first | assumption | exact b01_r | exact bz_r | omega | (constructor <;> omega) | exact hM _ | exact hPo _ | exact hTa _ | exact hRo _) (fun c_22 => ?_) (fun c_22 => ?_)
    · refine r_return (pc := 50) dX11_names_50 rfl ?_
      exact ⟨rfl, hB0, Same.refl⟩
    · exfalso; omega
  | succ n ih =>
    intro k m h hB hk hn
    obtain ⟨sz, hrow, hsz⟩ := isM.row hB hR
    dsimp only [mFs] at hB
    refine r_iload (pc := 18) dX11_names_18 rfl ?_
    refine r_iload (pc := 20) dX11_names_20 rfl ?_
    refine rj_icmp_ge (pc := 22) (tgt := 50) dX11_names_22 (by decide) (by first | assumption | exact b01_r | exact bz_r | omega | (constructor <;> omega) | exact hM _ | exact hPo _ | exact hTa _ | exact hRo _) (by first | assumption | exact b01_r | exact bz_r | omega | (constructor <;> omega) | exact hM _ | exact hPo _ | exact hTa _ | exact hRo _) (fun c_22 => ?_) (fun c_22 => ?_)
    · refine r_return (pc := 50) dX11_names_50 rfl ?_
      exfalso; omega
    · refine r_aload_n (pc := 25) dX11_names_25 rfl (by first | rfl | exact isRefV_rf _) ?_
      refine rm_getf (pc := 26) dX11_names_26 fX11_11 (by assumption) rfl ?_
      refine r_iload_n (pc := 29) dX11_names_29 rfl ?_
      refine rj_bipush (pc := 30) dX11_names_30 (by decide +kernel) ?_
      refine r_iload (pc := 32) dX11_names_32 rfl ?_
      refine r_iload_n (pc := 34) dX11_names_34 rfl ?_
      refine rj_isub (pc := 35) dX11_names_35 ?_
      refine r_callS3 (pc := 36) dX11_names_36 qX11_ofThing kX11_54 sX11_ofThing (Nat.le_of_ble_eq_true rfl) (m_ofThing d) (fun v_36 h_36 q_36 => ?_)
      obtain ⟨rfl, rfl⟩ := q_36
      refine r_aload_n (pc := 39) dX11_names_39 rfl (by first | rfl | exact isRefV_rf _) ?_
      refine r_iload (pc := 40) dX11_names_40 rfl ?_
      refine rj_iald (pc := 42) (j := k) dX11_names_42 hrow (by constructor <;> omega) (by omega) (by omega) (by omega) ?_
      first | refine rm_iast0 (pc := 43) (j := 265 + 14 * t + (k - fr)) dX11_names_43 (by assumption) (by first | assumption | exact b01_r | exact bz_r | omega | (constructor <;> omega) | exact hM _ | exact hPo _ | exact hTa _ | exact hRo _) (by first | assumption | exact b01_r | exact bz_r | omega | (constructor <;> omega) | exact hM _ | exact hPo _ | exact hTa _ | exact hRo _) (by first | assumption | exact b01_r | exact bz_r | omega | (constructor <;> omega) | exact hM _ | exact hPo _ | exact hTa _ | exact hRo _) (by omega) (fun h_43 hB_43 hS_43 => ?_)
      refine rj_iinc (pc := 44) dX11_names_44 (Nat.le_of_ble_eq_true rfl) rfl ?_
      dsimp only [lsSt, List.set, mLs, mEnt]
      refine r_goto (pc := 47) (tgt := 18) dX11_names_47 (by decide) ?_
      have z := ih (k + 1) _ _ hB_43 (by omega) (by omega)
      exact z.mono (fun v h' g => ⟨g.1, g.2.1, hS_43.trans g.2.2⟩)
end mg_30
