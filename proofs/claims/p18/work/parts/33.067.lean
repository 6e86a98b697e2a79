section mg_43
set_option maxHeartbeats 4000000 in
set_option maxRecDepth 100000 in
theorem m_row {G : mG} {l : Launch} (d : Nat) {h : mH} {x s : Nat} {f4 f6 f8 f9 f10 f11 f12 f13 f14 f16 f18 : Int} {m kp was pool tape pln pap rwd rw : Nat → Int}(hB : isM h x (mFs x f4 f6 f8 f9 f10 f11 f12 f13 f14 f16 f18 s) m kp was pool tape pln pap rwd rw) {a n : Int} (ha : InR a) (hn : InR n) : RUNM G l (d + 2) mX11_row [.ref x, .int (J a), .int (J n)] h (fun v h' => v = some (.int (J (rowV a n))) ∧ ((¬ rowDo a n ∧ h' = h) ∨ (rowDo a n ∧ isM h' x (mFs x f4 f6 f8 f9 f10 f11 f12 f13 f14 f16 f18 s) m kp was pool tape pln pap (updI rwd a.toNat n) (zrF rw (40 * a.toNat) 40) ∧ Same (mBlk x) h h'))) := by
  dsimp only [mFs] at hB
  refine RUNM.of (by decide +kernel) (Nat.le_of_ble_eq_true rfl) ?_
  refine r_iload_n (pc := 0) dX11_row_0 rfl ?_
  refine r_callS1 (pc := 1) dX11_row_1 qX11_isRow kX11_304 sX11_isRow (Nat.le_of_ble_eq_true rfl) (m_isRow d ha) (fun v_1 h_1 q_1 => ?_)
  obtain ⟨rfl, rfl⟩ := q_1
  refine rj_if_ne (pc := 4) (tgt := 9) dX11_row_4 (by decide) (by first | assumption | exact b01_r | exact bz_r | omega | (constructor <;> omega) | exact hM _ | exact hPo _ | exact hTa _ | exact hRo _) (fun c_4 => ?_) (fun c_4 => ?_)
  · try simp only [b01_0, bz_0, Classical.not_not] at c_4
    refine r_iload_n (pc := 9) dX11_row_9 rfl ?_
    refine rj_bipush (pc := 10) dX11_row_10 (by decide +kernel) ?_
    refine rj_icmp_le (pc := 12) (tgt := 18) dX11_row_12 (by decide) (by first | assumption | exact b01_r | exact bz_r | omega | (constructor <;> omega) | exact hM _ | exact hPo _ | exact hTa _ | exact hRo _) (by first | assumption | exact b01_r | exact bz_r | omega | (constructor <;> omega) | exact hM _ | exact hPo _ | exact hTa _ | exact hRo _) (fun c_12 => ?_) (fun c_12 => ?_)
    · refine r_iload_n (pc := 18) dX11_row_18 rfl ?_
      refine rj_if_ge (pc := 19) (tgt := 25) dX11_row_19 (by decide) (by first | assumption | exact b01_r | exact bz_r | omega | (constructor <;> omega) | exact hM _ | exact hPo _ | exact hTa _ | exact hRo _) (fun c_19 => ?_) (fun c_19 => ?_)
      · refine r_aload_n (pc := 25) dX11_row_25 rfl (by first | rfl | exact isRefV_rf _) ?_
        refine rm_getf (pc := 26) dX11_row_26 fX11_36 (by assumption) rfl ?_
        refine r_iload_n (pc := 29) dX11_row_29 rfl ?_
        refine r_iload_n (pc := 30) dX11_row_30 rfl ?_
        first | refine rm_iast7 (pc := 31) (j := a.toNat) dX11_row_31 (by assumption) (by first | assumption | exact b01_r | exact bz_r | omega | (constructor <;> omega) | exact hM _ | exact hPo _ | exact hTa _ | exact hRo _) (by first | assumption | exact b01_r | exact bz_r | omega | (constructor <;> omega) | exact hM _ | exact hPo _ | exact hTa _ | exact hRo _) (by first | assumption | exact b01_r | exact bz_r | omega | (constructor <;> omega) | exact hM _ | exact hPo _ | exact hTa _ | exact hRo _) (by omega) (fun h_31 hB_31 hS_31 => ?_)
        refine rj_iconst (pc := 32) dX11_row_32 ?_
        refine r_istore_n (pc := 33) dX11_row_33 (Nat.le_of_ble_eq_true rfl) ?_
        dsimp only [lsSt, List.set, mLs, mEnt]
        have z := L_row (G := G) (l := l) (rw := rw) (d + 2) (n := n) c_4 40 0 h_31 (by rw [zrF_0]; exact hB_31) rfl
        exact z.mono (fun v h' g => ⟨by rw [g.1]; unfold rowV; rw [if_pos c_4, if_pos (by omega), if_pos (by omega)], Or.inr ⟨⟨c_4, by omega, by omega⟩, g.2.1, hS_31.trans g.2.2⟩⟩)
      · refine rj_bipush (pc := 22) dX11_row_22 (by decide +kernel) ?_
        refine r_ireturn (pc := 24) .int dX11_row_24 rfl (by first | rfl | assumption) ?_
        first
        | exact ⟨by unfold rowV; rw [if_neg c_4], Or.inl ⟨fun g => c_4 g.1, rfl⟩⟩
        | exact ⟨by unfold rowV; rw [if_pos c_4, if_neg (by omega)], Or.inl ⟨fun g => by have := g.2; omega, rfl⟩⟩
        | exact ⟨by unfold rowV; rw [if_pos c_4, if_pos (by omega), if_neg (by omega)], Or.inl ⟨fun g => by have := g.2; omega, rfl⟩⟩
    · refine rj_bipush (pc := 15) dX11_row_15 (by decide +kernel) ?_
      refine r_ireturn (pc := 17) .int dX11_row_17 rfl (by first | rfl | assumption) ?_
      first
      | exact ⟨by unfold rowV; rw [if_neg c_4], Or.inl ⟨fun g => c_4 g.1, rfl⟩⟩
      | exact ⟨by unfold rowV; rw [if_pos c_4, if_neg (by omega)], Or.inl ⟨fun g => by have := g.2; omega, rfl⟩⟩
      | exact ⟨by unfold rowV; rw [if_pos c_4, if_pos (by omega), if_neg (by omega)], Or.inl ⟨fun g => by have := g.2; omega, rfl⟩⟩
  · try simp only [b01_0, bz_0, Classical.not_not] at c_4
    refine rj_iconst (pc := 7) dX11_row_7 ?_
    refine r_ireturn (pc := 8) .int dX11_row_8 rfl (by first | rfl | assumption) ?_
    first
    | exact ⟨by unfold rowV; rw [if_neg c_4], Or.inl ⟨fun g => c_4 g.1, rfl⟩⟩
    | exact ⟨by unfold rowV; rw [if_pos c_4, if_neg (by omega)], Or.inl ⟨fun g => by have := g.2; omega, rfl⟩⟩
    | exact ⟨by unfold rowV; rw [if_pos c_4, if_pos (by omega), if_neg (by omega)], Or.inl ⟨fun g => by have := g.2; omega, rfl⟩⟩
end mg_43
