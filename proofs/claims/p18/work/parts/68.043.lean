section mg_73
set_option maxHeartbeats 4000000 in
set_option maxRecDepth 100000 in
theorem m_copy {G : mG} {l : Launch} (d : Nat) {h : mH} {x s : Nat} {f4 f6 f8 f9 f10 f11 f12 f13 f14 f16 f18 : Int} {m kp was pool tape pln pap rwd rw : Nat → Int}(hB : isM h x (mFs x f4 f6 f8 f9 f10 f11 f12 f13 f14 f16 f18 s) m kp was pool tape pln pap rwd rw) (hRo : ∀ q, InR (rwd q)) (h40 : ∀ q, rwd q ≤ 40) {r i o j n : Int} (hr : InR r) (hi : InR i) (ho : InR o) (hj : InR j) (hn : InR n) : RUNM G l (d + 2) mX11_copy [.ref x, .int (J r), .int (J i), .int (J o), .int (J j), .int (J n)] h (fun v h' => v = some (.int (J (copyV rwd r i o j n))) ∧ ((¬ copyDo rwd r i o j n ∧ h' = h) ∨ (copyDo rwd r i o j n ∧ isM h' x (mFs x f4 f6 f8 f9 f10 f11 f12 f13 f14 f16 f18 s) m kp was pool tape pln pap rwd (cpR rw (40 * r + i).toNat (40 * o + j).toNat 0 n.toNat) ∧ Same (mBlk x) h h'))) := by
  have hB0 := hB
  dsimp only [mFs] at hB
  refine RUNM.of (by decide +kernel) (Nat.le_of_ble_eq_true rfl) ?_
  refine r_iload_n (pc := 0) dX11_copy_0 rfl ?_
  refine r_callS1 (pc := 1) dX11_copy_1 qX11_isRow kX11_304 sX11_isRow (Nat.le_of_ble_eq_true rfl) ((m_isRow 0 hr).deeper (by omega)) (fun v_1 h_1 q_1 => ?_)
  obtain ⟨rfl, rfl⟩ := q_1
  refine rj_if_eq (pc := 4) (tgt := 14) dX11_copy_4 (by decide) (by first | assumption | exact b01_r | exact bz_r | omega | (constructor <;> omega) | exact hM _ | exact hPo _ | exact hTa _ | exact hRo _) (fun c_4 => ?_) (fun c_4 => ?_)
  · try simp only [b01_0, bz_0, Classical.not_not] at c_4
    refine rj_iconst (pc := 14) dX11_copy_14 ?_
    refine r_ireturn (pc := 15) .int dX11_copy_15 rfl (by first | rfl | assumption) ?_
    exact ⟨by unfold copyV; rw [if_neg (by omega)], Or.inl ⟨by unfold copyDo; omega, rfl⟩⟩
  · try simp only [b01_0, bz_0, Classical.not_not] at c_4
    refine r_iload_n (pc := 7) dX11_copy_7 rfl ?_
    refine r_callS1 (pc := 8) dX11_copy_8 qX11_isRow kX11_304 sX11_isRow (Nat.le_of_ble_eq_true rfl) ((m_isRow 0 ho).deeper (by omega)) (fun v_8 h_8 q_8 => ?_)
    obtain ⟨rfl, rfl⟩ := q_8
    refine rj_if_ne (pc := 11) (tgt := 16) dX11_copy_11 (by decide) (by first | assumption | exact b01_r | exact bz_r | omega | (constructor <;> omega) | exact hM _ | exact hPo _ | exact hTa _ | exact hRo _) (fun c_11 => ?_) (fun c_11 => ?_)
    · try simp only [b01_0, bz_0, Classical.not_not] at c_11
      have rr := hRo r.toNat
      have ro := hRo o.toNat
      have q1 := h40 r.toNat
      have q2 := h40 o.toNat
      refine r_aload_n (pc := 16) dX11_copy_16 rfl (by first | rfl | exact isRefV_rf _) ?_
      refine rm_getf (pc := 17) dX11_copy_17 fX11_36 (by assumption) rfl ?_
      refine r_iload_n (pc := 20) dX11_copy_20 rfl ?_
      refine rj_iald (pc := 21) (j := r.toNat) dX11_copy_21 (by first | exact isM.g0 (by assumption) | exact isM.g3 (by assumption) | exact isM.g4 (by assumption) | exact isM.g8 (by assumption) | exact isM.g7 (by assumption) | exact isM.g6 (by assumption) | exact isM.g5 (by assumption) | exact isM.g1 (by assumption) | exact isM.g2 (by assumption)) (by first | assumption | exact b01_r | exact bz_r | omega | (constructor <;> omega) | exact hM _ | exact hPo _ | exact hTa _ | exact hRo _) (by first | assumption | exact b01_r | exact bz_r | omega | (constructor <;> omega) | exact hM _ | exact hPo _ | exact hTa _ | exact hRo _) (by first | assumption | exact b01_r | exact bz_r | omega | (constructor <;> omega) | exact hM _ | exact hPo _ | exact hTa _ | exact hRo _) (by omega) ?_
      refine rj_if_lt (pc := 22) (tgt := 34) dX11_copy_22 (by decide) (by first | assumption | exact b01_r | exact bz_r | omega | (constructor <;> omega) | exact hM _ | exact hPo _ | exact hTa _ | exact hRo _) (fun c_22 => ?_) (fun c_22 => ?_)
      · refine rj_bipush (pc := 34) dX11_copy_34 (by decide +kernel) ?_
        refine r_ireturn (pc := 36) .int dX11_copy_36 rfl (by first | rfl | assumption) ?_
        exact ⟨by unfold copyV; rw [if_pos (by omega), if_pos (by omega)], Or.inl ⟨by unfold copyDo; omega, rfl⟩⟩
      · refine r_aload_n (pc := 25) dX11_copy_25 rfl (by first | rfl | exact isRefV_rf _) ?_
        refine rm_getf (pc := 26) dX11_copy_26 fX11_36 (by assumption) rfl ?_
        refine r_iload_n (pc := 29) dX11_copy_29 rfl ?_
        refine rj_iald (pc := 30) (j := o.toNat) dX11_copy_30 (by first | exact isM.g0 (by assumption) | exact isM.g3 (by assumption) | exact isM.g4 (by assumption) | exact isM.g8 (by assumption) | exact isM.g7 (by assumption) | exact isM.g6 (by assumption) | exact isM.g5 (by assumption) | exact isM.g1 (by assumption) | exact isM.g2 (by assumption)) (by first | assumption | exact b01_r | exact bz_r | omega | (constructor <;> omega) | exact hM _ | exact hPo _ | exact hTa _ | exact hRo _) (by first | assumption | exact b01_r | exact bz_r | omega | (constructor <;> omega) | exact hM _ | exact hPo _ | exact hTa _ | exact hRo _) (by first | assumption | exact b01_r | exact bz_r | omega | (constructor <;> omega) | exact hM _ | exact hPo _ | exact hTa _ | exact hRo _) (by omega) ?_
        refine rj_if_ge (pc := 31) (tgt := 37) dX11_copy_31 (by decide) (by first | assumption | exact b01_r | exact bz_r | omega | (constructor <;> omega) | exact hM _ | exact hPo _ | exact hTa _ | exact hRo _) (fun c_31 => ?_) (fun c_31 => ?_)
        · refine r_iload (pc := 37) dX11_copy_37 rfl ?_
          refine rj_if_lt (pc := 39) (tgt := 78) dX11_copy_39 (by decide) (by first | assumption | exact b01_r | exact bz_r | omega | (constructor <;> omega) | exact hM _ | exact hPo _ | exact hTa _ | exact hRo _) (fun c_39 => ?_) (fun c_39 => ?_)
          · refine rj_bipush (pc := 78) dX11_copy_78 (by decide +kernel) ?_
            refine r_ireturn (pc := 80) .int dX11_copy_80 rfl (by first | rfl | assumption) ?_
            exact ⟨by unfold copyV; rw [if_pos (by omega), if_neg (by omega), if_pos (by omega)], Or.inl ⟨by unfold copyDo; omega, rfl⟩⟩
          · refine r_iload_n (pc := 42) dX11_copy_42 rfl ?_
            refine rj_if_lt (pc := 43) (tgt := 78) dX11_copy_43 (by decide) (by first | assumption | exact b01_r | exact bz_r | omega | (constructor <;> omega) | exact hM _ | exact hPo _ | exact hTa _ | exact hRo _) (fun c_43 => ?_) (fun c_43 => ?_)
            · refine rj_bipush (pc := 78) dX11_copy_78 (by decide +kernel) ?_
              refine r_ireturn (pc := 80) .int dX11_copy_80 rfl (by first | rfl | assumption) ?_
              exact ⟨by unfold copyV; rw [if_pos (by omega), if_neg (by omega), if_pos (by omega)], Or.inl ⟨by unfold copyDo; omega, rfl⟩⟩
            · refine r_iload (pc := 46) dX11_copy_46 rfl ?_
              refine rj_if_lt (pc := 48) (tgt := 78) dX11_copy_48 (by decide) (by first | assumption | exact b01_r | exact bz_r | omega | (constructor <;> omega) | exact hM _ | exact hPo _ | exact hTa _ | exact hRo _) (fun c_48 => ?_) (fun c_48 => ?_)
              · refine rj_bipush (pc := 78) dX11_copy_78 (by decide +kernel) ?_
                refine r_ireturn (pc := 80) .int dX11_copy_80 rfl (by first | rfl | assumption) ?_
                exact ⟨by unfold copyV; rw [if_pos (by omega), if_neg (by omega), if_pos (by omega)], Or.inl ⟨by unfold copyDo; omega, rfl⟩⟩
              · refine r_iload (pc := 51) dX11_copy_51 rfl ?_
                refine r_aload_n (pc := 53) dX11_copy_53 rfl (by first | rfl | exact isRefV_rf _) ?_
                refine rm_getf (pc := 54) dX11_copy_54 fX11_36 (by assumption) rfl ?_
                refine r_iload_n (pc := 57) dX11_copy_57 rfl ?_
                refine rj_iald (pc := 58) (j := r.toNat) dX11_copy_58 (by first | exact isM.g0 (by assumption) | exact isM.g3 (by assumption) | exact isM.g4 (by assumption) | exact isM.g8 (by assumption) | exact isM.g7 (by assumption) | exact isM.g6 (by assumption) | exact isM.g5 (by assumption) | exact isM.g1 (by assumption) | exact isM.g2 (by assumption)) (by first | assumption | exact b01_r | exact bz_r | omega | (constructor <;> omega) | exact hM _ | exact hPo _ | exact hTa _ | exact hRo _) (by first | assumption | exact b01_r | exact bz_r | omega | (constructor <;> omega) | exact hM _ | exact hPo _ | exact hTa _ | exact hRo _) (by first | assumption | exact b01_r | exact bz_r | omega | (constructor <;> omega) | exact hM _ | exact hPo _ | exact hTa _ | exact hRo _) (by omega) ?_
                refine r_iload_n (pc := 59) dX11_copy_59 rfl ?_
                refine rj_isub (pc := 60) dX11_copy_60 ?_
                refine rj_icmp_gt (pc := 61) (tgt := 78) dX11_copy_61 (by decide) (by first | assumption | exact b01_r | exact bz_r | omega | (constructor <;> omega) | exact hM _ | exact hPo _ | exact hTa _ | exact hRo _) (by first | assumption | exact b01_r | exact bz_r | omega | (constructor <;> omega) | exact hM _ | exact hPo _ | exact hTa _ | exact hRo _) (fun c_61 => ?_) (fun c_61 => ?_)
                · refine rj_bipush (pc := 78) dX11_copy_78 (by decide +kernel) ?_
                  refine r_ireturn (pc := 80) .int dX11_copy_80 rfl (by first | rfl | assumption) ?_
                  exact ⟨by unfold copyV; rw [if_pos (by omega), if_neg (by omega), if_pos (by omega)], Or.inl ⟨by unfold copyDo; omega, rfl⟩⟩
                · refine r_iload (pc := 64) dX11_copy_64 rfl ?_
                  refine r_aload_n (pc := 66) dX11_copy_66 rfl (by first | rfl | exact isRefV_rf _) ?_
                  refine rm_getf (pc := 67) dX11_copy_67 fX11_36 (by assumption) rfl ?_
                  refine r_iload_n (pc := 70) dX11_copy_70 rfl ?_
                  refine rj_iald (pc := 71) (j := o.toNat) dX11_copy_71 (by first | exact isM.g0 (by assumption) | exact isM.g3 (by assumption) | exact isM.g4 (by assumption) | exact isM.g8 (by assumption) | exact isM.g7 (by assumption) | exact isM.g6 (by assumption) | exact isM.g5 (by assumption) | exact isM.g1 (by assumption) | exact isM.g2 (by assumption)) (by first | assumption | exact b01_r | exact bz_r | omega | (constructor <;> omega) | exact hM _ | exact hPo _ | exact hTa _ | exact hRo _) (by first | assumption | exact b01_r | exact bz_r | omega | (constructor <;> omega) | exact hM _ | exact hPo _ | exact hTa _ | exact hRo _) (by first | assumption | exact b01_r | exact bz_r | omega | (constructor <;> omega) | exact hM _ | exact hPo _ | exact hTa _ | exact hRo _) (by omega) ?_
                  refine r_iload (pc := 72) dX11_copy_72 rfl ?_
                  refine rj_isub (pc := 74) dX11_copy_74 ?_
                  refine rj_icmp_le (pc := 75) (tgt := 81) dX11_copy_75 (by decide) (by first | assumption | exact b01_r | exact bz_r | omega | (constructor <;> omega) | exact hM _ | exact hPo _ | exact hTa _ | exact hRo _) (by first | assumption | exact b01_r | exact bz_r | omega | (constructor <;> omega) | exact hM _ | exact hPo _ | exact hTa _ | exact hRo _) (fun c_75 => ?_) (fun c_75 => ?_)
                  · refine rj_iconst (pc := 81) dX11_copy_81 ?_
                    refine r_istore (pc := 82) dX11_copy_82 (Nat.le_of_ble_eq_true rfl) ?_
                    dsimp only [lsSt, List.set, mLs, mEnt]
                    have hc : copyDo rwd r i o j n := by unfold copyDo; omega
                    have ev : copyV rwd r i o j n = n := by unfold copyV; rw [if_pos (by omega), if_neg (by omega), if_neg (by omega)]
                    rw [ev]
                    by_cases hij : j < i
                    · have y := L_copyUp (G := G) (l := l) (d + 2) hc h40 hij n.toNat 0 _ none (by omega) (by rw [cpR_0]; exact hB0)
                      exact y.mono (fun v h' q => ⟨q.1, Or.inr ⟨hc, q.2⟩⟩)
                    · have y := L_copyDn (G := G) (l := l) (d + 2) hc h40 (by omega) n.toNat 0 _ none (by omega) (by rw [Nat.sub_zero, cpR_0]; exact hB0)
                      exact y.mono (fun v h' q => ⟨q.1, Or.inr ⟨hc, q.2⟩⟩)
                  · refine rj_bipush (pc := 78) dX11_copy_78 (by decide +kernel) ?_
                    refine r_ireturn (pc := 80) .int dX11_copy_80 rfl (by first | rfl | assumption) ?_
                    exact ⟨by unfold copyV; rw [if_pos (by omega), if_neg (by omega), if_pos (by omega)], Or.inl ⟨by unfold copyDo; omega, rfl⟩⟩
        · refine rj_bipush (pc := 34) dX11_copy_34 (by decide +kernel) ?_
          refine r_ireturn (pc := 36) .int dX11_copy_36 rfl (by first | rfl | assumption) ?_
          exact ⟨by unfold copyV; rw [if_pos (by omega), if_pos (by omega)], Or.inl ⟨by unfold copyDo; omega, rfl⟩⟩
    · try simp only [b01_0, bz_0, Classical.not_not] at c_11
      refine rj_iconst (pc := 14) dX11_copy_14 ?_
      refine r_ireturn (pc := 15) .int dX11_copy_15 rfl (by first | rfl | assumption) ?_
      exact ⟨by unfold copyV; rw [if_neg (by omega)], Or.inl ⟨by unfold copyDo; omega, rfl⟩⟩
end mg_73
