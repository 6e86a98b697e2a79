section mg_75
set_option maxHeartbeats 4000000 in
set_option maxRecDepth 100000 in
theorem L_zero {G : mG} {l : Launch} {x s : Nat} {f4 f6 f8 f9 f10 f11 f12 f13 f14 f16 f18 : Int} {kp was pool tape pln pap rwd rw : Nat → Int} {T : Nat} (hT9 : T ≤ 9) {a b : Int} {mm : Nat → Int} {Q : Option Value → mH → Prop} {f6' : Int} {hz : mH} (K : ∀ h1, Same (mBlk x) hz h1 → isM h1 x (mFs x f4 f6 f8 f9 f10 f11 f12 f13 f14 f16 f18 s) (zrF mm (1608 + 72 * T) 72) kp was pool tape pln pap rwd rw → RUN G l 40 mX11_task 152 [some (.ref x), some (.int (J a)), some (.int (J b)), some (.int (J f6')), some (.int (J (T : Int))), some (.int (J (72 : Int)))] [] h1 Q) : ∀ (n k : Nat) (h : mH), k + n = 72 → Same (mBlk x) hz h → isM h x (mFs x f4 f6 f8 f9 f10 f11 f12 f13 f14 f16 f18 s) (zrF mm (1608 + 72 * T) k) kp was pool tape pln pap rwd rw → RUN G l 40 mX11_task 125 [some (.ref x), some (.int (J a)), some (.int (J b)), some (.int (J f6')), some (.int (J (T : Int))), some (.int (J (k : Int)))] [] h Q := by
  intro n
  induction n with
  | zero =>
    intro k h hk hS hB
    have hB0 := hB
    obtain rfl : k = 72 := by omega
    dsimp only [mFs] at hB
    refine r_iload (pc := 125) dX11_task_125 rfl ?_
    refine rj_bipush (pc := 127) dX11_task_127 (by decide +kernel) ?_
    refine rj_icmp_ge (pc := 129) (tgt := 152) dX11_task_129 (by decide) (by first | assumption | exact b01_r | exact bz_r | omega | (constructor <;> omega) | exact hM _ | exact hPo _ | exact hTa _ | exact hRo _) (by first | assumption | exact b01_r | exact bz_r | omega | (constructor <;> omega) | exact hM _ | exact hPo _ | exact hTa _ | exact hRo _) (fun c_129 => ?_) (fun c_129 => ?_)
    · exact K _ hS hB0
    · all_goals (first | exact absurd trivial ‹¬ True› | (exfalso; omega))
  | succ n ih =>
    intro k h hk hS hB
    have hB0 := hB
    dsimp only [mFs] at hB
    refine r_iload (pc := 125) dX11_task_125 rfl ?_
    refine rj_bipush (pc := 127) dX11_task_127 (by decide +kernel) ?_
    refine rj_icmp_ge (pc := 129) (tgt := 152) dX11_task_129 (by decide) (by first | assumption | exact b01_r | exact bz_r | omega | (constructor <;> omega) | exact hM _ | exact hPo _ | exact hTa _ | exact hRo _) (by first | assumption | exact b01_r | exact bz_r | omega | (constructor <;> omega) | exact hM _ | exact hPo _ | exact hTa _ | exact hRo _) (fun c_129 => ?_) (fun c_129 => ?_)
    · exfalso; omega
    · refine r_aload_n (pc := 132) dX11_task_132 rfl (by first | rfl | exact isRefV_rf _) ?_
      refine rm_getf (pc := 133) dX11_task_133 fX11_11 (by assumption) rfl ?_
      refine r_iload (pc := 136) dX11_task_136 rfl ?_
      refine r_iload (pc := 138) dX11_task_138 rfl ?_
      refine rj_iconst (pc := 140) dX11_task_140 ?_
      refine r_callS3 (pc := 141) dX11_task_141 qX11_ofTask kX11_58 sX11_ofTask (Nat.le_of_ble_eq_true rfl) (m_ofTask _) (fun v_141 h_141 q_141 => ?_)
      obtain ⟨rfl, rfl⟩ := q_141
      refine rj_iconst (pc := 144) dX11_task_144 ?_
      first | refine rm_iast0 (pc := 145) (j := 1608 + 72 * T + k) dX11_task_145 (by assumption) (by first | assumption | exact b01_r | exact bz_r | omega | (constructor <;> omega) | exact hM _ | exact hPo _ | exact hTa _ | exact hRo _) (by first | assumption | exact b01_r | exact bz_r | omega | (constructor <;> omega) | exact hM _ | exact hPo _ | exact hTa _ | exact hRo _) (by first | assumption | exact b01_r | exact bz_r | omega | (constructor <;> omega) | exact hM _ | exact hPo _ | exact hTa _ | exact hRo _) (by omega) (fun h_145 hB_145 hS_145 => ?_)
      rw [zrF_s] at hB_145
      refine rj_iinc (pc := 146) dX11_task_146 (Nat.le_of_ble_eq_true rfl) rfl ?_
      dsimp only [lsSt, List.set, mLs, mEnt]
      refine r_goto (pc := 149) (tgt := 125) dX11_task_149 (by decide) ?_
      have y := ih (k + 1) _ (by omega) (hS.trans hS_145) hB_145
      rw [show ((k + 1 : Nat) : Int) = (k : Int) + 1 by omega] at y
      exact y
end mg_75
