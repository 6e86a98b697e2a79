section mg_71
set_option maxHeartbeats 4000000 in
set_option maxRecDepth 100000 in
theorem m_run {G : mG} {l : Launch} {x s : Nat} {f4 f6 f8 f9 f10 f11 f12 f13 f14 f16 f18 : Int} {kp was pool tape pln pap rwd rw : Nat → Int} (hPo : ∀ q, InR (pool q)) (h14 : InR f14) {b : Int} {k : Nat} (hb : InR b) {m m' : Nat → Int} {h : mH} (hB : isM h x (mFs x f4 f6 f8 f9 f10 f11 f12 f13 f14 f16 f18 s) m kp was pool tape pln pap rwd rw) (hR : (0 ≤ b ∧ b ≤ 100) → ticksR pool b.toNat m k m') : RUNM G l 402 mX11_run [.ref x, .int (J b)] h (fun v h' => (¬ (0 ≤ b ∧ b ≤ 100) ∧ v = some (.int (J (-2))) ∧ h' = h) ∨ ((0 ≤ b ∧ b ≤ 100) ∧ v = some (.int (J (k : Int))) ∧ (∃ g14, InR g14 ∧ isM h' x (mFs x f4 f6 f8 f9 f10 f11 f12 f13 g14 f16 f18 s) m' kp was pool tape pln pap rwd rw) ∧ Same (mBlk x) h h')) := by
  refine RUNM.of (by decide +kernel) (Nat.le_of_ble_eq_true rfl) ?_
  refine r_iload_n (pc := 0) dX11_run_0 rfl ?_
  refine rj_iconst (pc := 1) dX11_run_1 ?_
  refine rj_bipush (pc := 2) dX11_run_2 (by decide +kernel) ?_
  refine r_callS3 (pc := 4) dX11_run_4 qX11_isIn kX11_46 sX11_isIn (Nat.le_of_ble_eq_true rfl) ((m_isIn 0 hb (by decide) (by decide)).deeper (by omega)) (fun v_4 h_4 q_4 => ?_)
  obtain ⟨rfl, rfl⟩ := q_4
  refine rj_if_eq (pc := 7) (tgt := 18) dX11_run_7 (by decide) (by first | assumption | exact b01_r | exact bz_r | omega | (constructor <;> omega) | exact hM _ | exact hPo _ | exact hTa _ | exact hRo _) (fun c_7 => ?_) (fun c_7 => ?_)
  · try simp only [b01_0, bz_0, Classical.not_not] at c_7
    refine rj_bipush (pc := 18) dX11_run_18 (by decide +kernel) ?_
    refine r_ireturn (pc := 20) .int dX11_run_20 rfl (by first | rfl | assumption) ?_
    first | exact Or.inr ⟨c_7, rfl, hB_12, S_12⟩ | exact Or.inl ⟨c_7, rfl, rfl⟩
  · try simp only [b01_0, bz_0, Classical.not_not] at c_7
    refine r_aload_n (pc := 10) dX11_run_10 rfl (by first | rfl | exact isRefV_rf _) ?_
    refine r_iload_n (pc := 11) dX11_run_11 rfl ?_
    refine r_callV1 (pc := 12) dX11_run_12 qX11_ticks kX11_214 vX11_ticks (by exact isM.gx (by assumption)) rfl rfl (Nat.le_of_ble_eq_true rfl) (by have y := m_ticks (G := G) (l := l) hPo h14 (B := b.toNat) (k := k) (by omega) hB (hR c_7); rw [show ((b.toNat : Nat) : Int) = b by omega] at y; exact y) (fun v_12 h_12 q_12 => ?_)
    obtain ⟨rfl, hB_12, S_12⟩ := q_12
    refine r_goto (pc := 15) (tgt := 20) dX11_run_15 (by decide) ?_
    refine r_ireturn (pc := 20) .int dX11_run_20 rfl (by first | rfl | assumption) ?_
    first | exact Or.inr ⟨c_7, rfl, hB_12, S_12⟩ | exact Or.inl ⟨c_7, rfl, rfl⟩
end mg_71
