section mg_34
set_option maxHeartbeats 4000000 in
set_option maxRecDepth 100000 in
theorem L_above {G : mG} {l : Launch} (d : Nat) {h : mH} {x s : Nat} {f4 f6 f8 f9 f10 f11 f12 f13 f14 f16 f18 : Int} {m kp was pool tape pln pap rwd rw : Nat → Int}(hB : isM h x (mFs x f4 f6 f8 f9 f10 f11 f12 f13 f14 f16 f18 s) m kp was pool tape pln pap rwd rw) {C : Nat} (hC2 : C ≤ 60) (hP : parOk m C) {a : Int} : ∀ (n : Nat) (k c : Int), k < n → -5 ≤ k → k < C → RUN G l (d + 1) mX11_above 13 [some (.ref x), some (.int (J a)), some (.int (J c)), some (.int (J k))] [] h (fun v h' => v = some (.int (J (c + upN m n k))) ∧ h' = h) := by
  dsimp only [mFs] at hB
  intro n
  induction n with
  | zero =>
    intro k c h1 h2 h3
    refine r_iload_n (pc := 13) dX11_above_13 rfl ?_
    refine rj_if_lt (pc := 14) (tgt := 34) dX11_above_14 (by decide) (by first | assumption | exact b01_r | exact bz_r | omega | (constructor <;> omega) | exact hM _ | exact hPo _ | exact hTa _ | exact hRo _) (fun c_14 => ?_) (fun c_14 => ?_)
    · refine r_iload_n (pc := 34) dX11_above_34 rfl ?_
      refine r_ireturn (pc := 35) .int dX11_above_35 rfl (by first | rfl | assumption) ?_
      exact ⟨by rw [upN, Int.add_zero], rfl⟩
    · exfalso; omega
  | succ n ih =>
    intro k c h1 h2 h3
    refine r_iload_n (pc := 13) dX11_above_13 rfl ?_
    refine rj_if_lt (pc := 14) (tgt := 34) dX11_above_14 (by decide) (by first | assumption | exact b01_r | exact bz_r | omega | (constructor <;> omega) | exact hM _ | exact hPo _ | exact hTa _ | exact hRo _) (fun c_14 => ?_) (fun c_14 => ?_)
    · refine r_iload_n (pc := 34) dX11_above_34 rfl ?_
      refine r_ireturn (pc := 35) .int dX11_above_35 rfl (by first | rfl | assumption) ?_
      exact ⟨by rw [upN, if_neg (by omega), Int.add_zero], rfl⟩
    · refine rj_iinc (pc := 17) dX11_above_17 (Nat.le_of_ble_eq_true rfl) rfl ?_
      dsimp only [lsSt, List.set, mLs, mEnt]
      refine r_aload_n (pc := 20) dX11_above_20 rfl (by first | rfl | exact isRefV_rf _) ?_
      refine rm_getf (pc := 21) dX11_above_21 fX11_11 (by assumption) rfl ?_
      refine r_iload_n (pc := 24) dX11_above_24 rfl ?_
      refine rj_iconst (pc := 25) dX11_above_25 ?_
      refine r_callS2 (pc := 26) dX11_above_26 qX11_ofScope kX11_42 sX11_ofScope (Nat.le_of_ble_eq_true rfl) (m_ofScope d) (fun v_26 h_26 q_26 => ?_)
      obtain ⟨rfl, rfl⟩ := q_26
      refine rj_iald (pc := 29) (j := (19 + 4 * k).toNat) dX11_above_29 (by first | exact isM.g0 (by assumption) | exact isM.g3 (by assumption) | exact isM.g4 (by assumption) | exact isM.g8 (by assumption) | exact isM.g7 (by assumption) | exact isM.g6 (by assumption) | exact isM.g5 (by assumption) | exact isM.g1 (by assumption) | exact isM.g2 (by assumption)) (by first | assumption | exact b01_r | exact bz_r | omega | (constructor <;> omega) | exact hM _ | exact hPo _ | exact hTa _ | exact hRo _) (by first | assumption | exact b01_r | exact bz_r | omega | (constructor <;> omega) | exact hM _ | exact hPo _ | exact hTa _ | exact hRo _) (by first | assumption | exact b01_r | exact bz_r | omega | (constructor <;> omega) | exact hM _ | exact hPo _ | exact hTa _ | exact hRo _) (by omega) ?_
      refine r_istore_n (pc := 30) dX11_above_30 (Nat.le_of_ble_eq_true rfl) ?_
      dsimp only [lsSt, List.set, mLs, mEnt]
      refine r_goto (pc := 31) (tgt := 13) dX11_above_31 (by decide) ?_
      obtain ⟨p1, p2⟩ := hP k (by omega) h3
      have z := ih _ (c + 1) (by omega) p1 (by omega)
      rw [show c + upN m (n + 1) k = c + 1 + upN m n (m (19 + 4 * k).toNat) by rw [upN, if_pos (by omega)]; omega]
      exact z
end mg_34
