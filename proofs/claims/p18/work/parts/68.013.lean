section mg_70
set_option maxHeartbeats 4000000 in
set_option maxRecDepth 100000 in
theorem L_isOver {G : mG} {l : Launch} {D : Nat} (hD : 280 ≤ D) {x s : Nat} {f4 f6 f8 f9 f10 f11 f12 f13 f14 f16 f18 : Int} {kp was pool tape pln pap rwd rw : Nat → Int} {sh : (Nat → Int) → Int → (Nat → Int) → Prop} (hsh : ∀ (m1 m2 : Nat → Int) (e : Int) (h : mH), isM h x (mFs x f4 f6 f8 f9 f10 f11 f12 f13 f14 f16 f18 s) m1 kp was pool tape pln pap rwd rw → sh m1 e m2 → RUNM G l D mX11_shuts [.ref x, .int (J e)] h (fun v h' => v = none ∧ isM h' x (mFs x f4 f6 f8 f9 f10 f11 f12 f13 f14 f16 f18 s) m2 kp was pool tape pln pap rwd rw ∧ Same (mBlk x) h h')) {t : Nat} (ht : t ≤ 9) {st : Int} {m' : Nat → Int} : ∀ (n : Nat) (m : Nat → Int) (h : mH), n ≤ 60 → isM h x (mFs x f4 f6 f8 f9 f10 f11 f12 f13 f14 f16 f18 s) m kp was pool tape pln pap rwd rw → overR sh t n m m' → RUN G l (D + 1) mX11_isOver 27 [some (.ref x), some (.int (J (t : Int))), some (.int (J st)), some (.int (J ((n : Int) - 1)))] [] h (fun v h' => v = none ∧ isM h' x (mFs x f4 f6 f8 f9 f10 f11 f12 f13 f14 f16 f18 s) m' kp was pool tape pln pap rwd rw ∧ Same (mBlk x) h h') := by
  intro n
  induction n with
  | zero =>
    intro m h hn hB hR
    obtain rfl := hR
    have hB0 := hB
    refine r_iload_n (pc := 27) dX11_isOver_27 rfl ?_
    refine rj_if_lt (pc := 28) (tgt := 53) dX11_isOver_28 (by decide) (by first | assumption | exact b01_r | exact bz_r | omega | (constructor <;> omega) | exact hM _ | exact hPo _ | exact hTa _ | exact hRo _) (fun c_28 => ?_) (fun c_28 => ?_)
    · refine r_return (pc := 53) dX11_isOver_53 rfl ?_
      exact ⟨rfl, hB0, Same.refl⟩
    · exfalso; omega
  | succ n ih =>
    intro m h hn hB hR
    obtain ⟨hM, m1, hs, hR⟩ := hR
    have hB0 := hB
    dsimp only [mFs] at hB
    refine r_iload_n (pc := 27) dX11_isOver_27 rfl ?_
    refine rj_if_lt (pc := 28) (tgt := 53) dX11_isOver_28 (by decide) (by first | assumption | exact b01_r | exact bz_r | omega | (constructor <;> omega) | exact hM _ | exact hPo _ | exact hTa _ | exact hRo _) (fun c_28 => ?_) (fun c_28 => ?_)
    · exfalso; omega
    · refine r_aload_n (pc := 31) dX11_isOver_31 rfl (by first | rfl | exact isRefV_rf _) ?_
      refine r_aload_n (pc := 32) dX11_isOver_32 rfl (by first | rfl | exact isRefV_rf _) ?_
      refine rm_getf (pc := 33) dX11_isOver_33 fX11_11 (by assumption) rfl ?_
      refine r_iload_n (pc := 36) dX11_isOver_36 rfl ?_
      refine rj_bipush (pc := 37) dX11_isOver_37 (by decide +kernel) ?_
      refine r_iload_n (pc := 39) dX11_isOver_39 rfl ?_
      refine r_callS3 (pc := 40) dX11_isOver_40 qX11_ofTask kX11_58 sX11_ofTask (Nat.le_of_ble_eq_true rfl) (m_ofTask _) (fun v_40 h_40 q_40 => ?_)
      obtain ⟨rfl, rfl⟩ := q_40
      refine rj_iald (pc := 43) (j := 1620 + 72 * t + n) dX11_isOver_43 (by first | exact isM.g0 (by assumption) | exact isM.g3 (by assumption) | exact isM.g4 (by assumption) | exact isM.g8 (by assumption) | exact isM.g7 (by assumption) | exact isM.g6 (by assumption) | exact isM.g5 (by assumption) | exact isM.g1 (by assumption) | exact isM.g2 (by assumption)) (by first | assumption | exact b01_r | exact bz_r | omega | (constructor <;> omega) | exact hM _ | exact hPo _ | exact hTa _ | exact hRo _) (by first | assumption | exact b01_r | exact bz_r | omega | (constructor <;> omega) | exact hM _ | exact hPo _ | exact hTa _ | exact hRo _) (by first | assumption | exact b01_r | exact bz_r | omega | (constructor <;> omega) | exact hM _ | exact hPo _ | exact hTa _ | exact hRo _) (by omega) ?_
      refine r_callV1 (pc := 44) dX11_isOver_44 qX11_shuts kX11_157 vX11_shuts (by exact isM.gx (by assumption)) rfl rfl (Nat.le_of_ble_eq_true rfl) (hsh m m1 _ _ hB0 hs) (fun v_44 h_44 q_44 => ?_)
      obtain ⟨rfl, hB_44, S_44⟩ := q_44
      refine rj_iinc (pc := 47) dX11_isOver_47 (Nat.le_of_ble_eq_true rfl) rfl ?_
      dsimp only [lsSt, List.set, mLs, mEnt]
      refine r_goto (pc := 50) (tgt := 27) dX11_isOver_50 (by decide) ?_
      rw [show ((n + 1 : Nat) : Int) - 1 + -1 = (n : Int) - 1 by omega]
      exact (ih m1 _ (by omega) hB_44 hR).mono (fun v h' q => ⟨q.1, q.2.1, S_44.trans q.2.2⟩)
end mg_70
