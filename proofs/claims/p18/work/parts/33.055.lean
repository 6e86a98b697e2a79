section mg_41
set_option maxHeartbeats 4000000 in
set_option maxRecDepth 100000 in
theorem m_move {G : mG} {l : Launch} (d : Nat) {h : mH} {x s : Nat} {f4 f6 f8 f9 f10 f11 f12 f13 f14 f16 f18 : Int} {m kp was pool tape pln pap rwd rw : Nat → Int}(hB : isM h x (mFs x f4 f6 f8 f9 f10 f11 f12 f13 f14 f16 f18 s) m kp was pool tape pln pap rwd rw) (hM : ∀ q, InR (m q)) {N C : Nat} (hN : m 1 = (N : Int)) (hcap : N ≤ 90) (hC : m 0 = (C : Int)) (hC1 : 1 ≤ C) (hC2 : C ≤ 60) {t s2 : Int} (h6 : InR (m 6 + 1)) (ht : InR t) (hs : InR s2) : RUNM G l (d + 3) mX11_move [.ref x, .int (J t), .int (J s2)] h (fun v h' => v = some (.int (J (moveV m N C t s2))) ∧ ((¬ moveDo m t s2 ∧ h' = h) ∨ (moveDo m t s2 ∧ isM h' x (mFs x f4 f6 f8 f9 f10 f11 f12 f13 f14 f16 f18 s) (movesM m t.toNat s2) kp was pool tape pln pap rwd rw ∧ Same (mBlk x) h h'))) := by
  have hB0 := hB
  dsimp only [mFs] at hB
  refine RUNM.of (by decide +kernel) (Nat.le_of_ble_eq_true rfl) ?_
  refine r_aload_n (pc := 0) dX11_move_0 rfl (by first | rfl | exact isRefV_rf _) ?_
  refine r_iload_n (pc := 1) dX11_move_1 rfl ?_
  refine r_callV1 (pc := 2) dX11_move_2 qX11_isThing kX11_238 vX11_isThing (by exact isM.gx (by assumption)) rfl rfl (Nat.le_of_ble_eq_true rfl) (m_isThing (d + 1) hB0 ht ⟨by omega, by omega⟩) (fun v_2 h_2 q_2 => ?_)
  obtain ⟨rfl, rfl⟩ := q_2
  refine rj_if_eq (pc := 5) (tgt := 16) dX11_move_5 (by decide) (by first | assumption | exact b01_r | exact bz_r | omega | (constructor <;> omega) | exact hM _ | exact hPo _ | exact hTa _ | exact hRo _) (fun c_5 => ?_) (fun c_5 => ?_)
  · try simp only [b01_0, bz_0, Classical.not_not] at c_5
    refine rj_iconst (pc := 16) dX11_move_16 ?_
    refine r_ireturn (pc := 17) .int dX11_move_17 rfl (by first | rfl | assumption) ?_
    first
    | exact ⟨by unfold moveV; rw [if_neg (fun g => c_5 g.1)], Or.inl ⟨fun g => c_5 g.1, rfl⟩⟩
    | exact ⟨by unfold moveV; rw [if_neg (fun g => c_13 g.2)], Or.inl ⟨fun g => c_13 ⟨g.2.2.1, g.2.2.2.1⟩, rfl⟩⟩
    | exact ⟨by unfold moveV; rw [if_pos ⟨c_5, c_13⟩, if_neg (fun g => c_23 g.1)], Or.inl ⟨fun g => c_23 g.2.1, rfl⟩⟩
    | exact ⟨by unfold moveV; rw [if_pos ⟨c_5, c_13⟩, if_neg (fun g => c_31 g.2)], Or.inl ⟨fun g => c_31 g.2.2, rfl⟩⟩
    | exact ⟨by unfold moveV; rw [if_pos ⟨c_5, c_13⟩, if_pos ⟨c_23, c_31⟩], Or.inr ⟨⟨c_5, c_23, c_31⟩, hB_40, hS_40⟩⟩
  · try simp only [b01_0, bz_0, Classical.not_not] at c_5
    refine r_aload_n (pc := 8) dX11_move_8 rfl (by first | rfl | exact isRefV_rf _) ?_
    refine r_iload_n (pc := 9) dX11_move_9 rfl ?_
    refine r_callV1 (pc := 10) dX11_move_10 qX11_isScope kX11_50 vX11_isScope (by exact isM.gx (by assumption)) rfl rfl (Nat.le_of_ble_eq_true rfl) (m_isScope (d + 1) hB0 hs ⟨by omega, by omega⟩) (fun v_10 h_10 q_10 => ?_)
    obtain ⟨rfl, rfl⟩ := q_10
    refine rj_if_ne (pc := 13) (tgt := 18) dX11_move_13 (by decide) (by first | assumption | exact b01_r | exact bz_r | omega | (constructor <;> omega) | exact hM _ | exact hPo _ | exact hTa _ | exact hRo _) (fun c_13 => ?_) (fun c_13 => ?_)
    · try simp only [b01_0, bz_0, Classical.not_not] at c_13
      refine r_aload_n (pc := 18) dX11_move_18 rfl (by first | rfl | exact isRefV_rf _) ?_
      refine r_iload_n (pc := 19) dX11_move_19 rfl ?_
      refine r_callV1 (pc := 20) dX11_move_20 qX11_isHeld kX11_119 vX11_isHeld (by exact isM.gx (by assumption)) rfl rfl (Nat.le_of_ble_eq_true rfl) (m_isHeld (d + 1) hB0 hM (by omega) (by omega)) (fun v_20 h_20 q_20 => ?_)
      obtain ⟨rfl, rfl⟩ := q_20
      refine rj_if_eq (pc := 23) (tgt := 34) dX11_move_23 (by decide) (by first | assumption | exact b01_r | exact bz_r | omega | (constructor <;> omega) | exact hM _ | exact hPo _ | exact hTa _ | exact hRo _) (fun c_23 => ?_) (fun c_23 => ?_)
      · try simp only [b01_0, bz_0, Classical.not_not] at c_23
        refine rj_bipush (pc := 34) dX11_move_34 (by decide +kernel) ?_
        refine r_ireturn (pc := 36) .int dX11_move_36 rfl (by first | rfl | assumption) ?_
        first
        | exact ⟨by unfold moveV; rw [if_neg (fun g => c_5 g.1)], Or.inl ⟨fun g => c_5 g.1, rfl⟩⟩
        | exact ⟨by unfold moveV; rw [if_neg (fun g => c_13 g.2)], Or.inl ⟨fun g => c_13 ⟨g.2.2.1, g.2.2.2.1⟩, rfl⟩⟩
        | exact ⟨by unfold moveV; rw [if_pos ⟨c_5, c_13⟩, if_neg (fun g => c_23 g.1)], Or.inl ⟨fun g => c_23 g.2.1, rfl⟩⟩
        | exact ⟨by unfold moveV; rw [if_pos ⟨c_5, c_13⟩, if_neg (fun g => c_31 g.2)], Or.inl ⟨fun g => c_31 g.2.2, rfl⟩⟩
        | exact ⟨by unfold moveV; rw [if_pos ⟨c_5, c_13⟩, if_pos ⟨c_23, c_31⟩], Or.inr ⟨⟨c_5, c_23, c_31⟩, hB_40, hS_40⟩⟩
      · try simp only [b01_0, bz_0, Classical.not_not] at c_23
        refine r_aload_n (pc := 26) dX11_move_26 rfl (by first | rfl | exact isRefV_rf _) ?_
        refine r_iload_n (pc := 27) dX11_move_27 rfl ?_
        refine r_callV1 (pc := 28) dX11_move_28 qX11_isOpen kX11_146 vX11_isOpen (by exact isM.gx (by assumption)) rfl rfl (Nat.le_of_ble_eq_true rfl) (m_isOpen d hB0 hM ⟨by omega, by omega⟩ hs) (fun v_28 h_28 q_28 => ?_)
        obtain ⟨rfl, rfl⟩ := q_28
        refine rj_if_ne (pc := 31) (tgt := 37) dX11_move_31 (by decide) (by first | assumption | exact b01_r | exact bz_r | omega | (constructor <;> omega) | exact hM _ | exact hPo _ | exact hTa _ | exact hRo _) (fun c_31 => ?_) (fun c_31 => ?_)
        · try simp only [b01_0, bz_0, Classical.not_not] at c_31
          refine r_aload_n (pc := 37) dX11_move_37 rfl (by first | rfl | exact isRefV_rf _) ?_
          refine r_iload_n (pc := 38) dX11_move_38 rfl ?_
          refine r_iload_n (pc := 39) dX11_move_39 rfl ?_
          refine r_callV2 (pc := 40) dX11_move_40 qX11_moves kX11_177 vX11_moves (by exact isM.gx (by assumption)) rfl rfl (Nat.le_of_ble_eq_true rfl) (by have y := m_moves (G := G) (l := l) (d + 1) (t := t.toNat) (b := s2) hB0 (by omega); rw [show ((t.toNat : Nat) : Int) = t by omega] at y; exact y) (fun v_40 h_40 q_40 => ?_)
          obtain ⟨rfl, hB_40, hS_40⟩ := q_40
          have hM2 : ∀ q, InR (movesM m t.toNat s2 q) := by
            intro q
            unfold movesM updI
            split
            · exact h6
            · split
              · exact h6
              · split
                · exact hs
                · exact hM _
          have hN2 : movesM m t.toNat s2 1 = (N : Int) := by rw [← hN]; unfold movesM updI; rw [if_neg (by omega), if_neg (by omega), if_neg (by omega)]
          have hC3 : movesM m t.toNat s2 0 = (C : Int) := by rw [← hC]; unfold movesM updI; rw [if_neg (by omega), if_neg (by omega), if_neg (by omega)]
          refine r_aload_n (pc := 43) dX11_move_43 rfl (by first | rfl | exact isRefV_rf _) ?_
          refine r_iload_n (pc := 44) dX11_move_44 rfl ?_
          refine r_callV1 (pc := 45) dX11_move_45 qX11_entries kX11_241 vX11_entries (by exact isM.gx (by assumption)) rfl rfl (Nat.le_of_ble_eq_true rfl) (m_entries d hB_40 hM2 hN2 hcap hC3 hC1 hC2 hs) (fun v_45 h_45 q_45 => ?_)
          obtain ⟨rfl, rfl⟩ := q_45
          refine r_ireturn (pc := 48) .int dX11_move_48 rfl (by first | rfl | assumption) ?_
          first
          | exact ⟨by unfold moveV; rw [if_neg (fun g => c_5 g.1)], Or.inl ⟨fun g => c_5 g.1, rfl⟩⟩
          | exact ⟨by unfold moveV; rw [if_neg (fun g => c_13 g.2)], Or.inl ⟨fun g => c_13 ⟨g.2.2.1, g.2.2.2.1⟩, rfl⟩⟩
          | exact ⟨by unfold moveV; rw [if_pos ⟨c_5, c_13⟩, if_neg (fun g => c_23 g.1)], Or.inl ⟨fun g => c_23 g.2.1, rfl⟩⟩
          | exact ⟨by unfold moveV; rw [if_pos ⟨c_5, c_13⟩, if_neg (fun g => c_31 g.2)], Or.inl ⟨fun g => c_31 g.2.2, rfl⟩⟩
          | exact ⟨by unfold moveV; rw [if_pos ⟨c_5, c_13⟩, if_pos ⟨c_23, c_31⟩], Or.inr ⟨⟨c_5, c_23, c_31⟩, hB_40, hS_40⟩⟩
        · try simp only [b01_0, bz_0, Classical.not_not] at c_31
          refine rj_bipush (pc := 34) dX11_move_34 (by decide +kernel) ?_
          refine r_ireturn (pc := 36) .int dX11_move_36 rfl (by first | rfl | assumption) ?_
          first
          | exact ⟨by unfold moveV; rw [if_neg (fun g => c_5 g.1)], Or.inl ⟨fun g => c_5 g.1, rfl⟩⟩
          | exact ⟨by unfold moveV; rw [if_neg (fun g => c_13 g.2)], Or.inl ⟨fun g => c_13 ⟨g.2.2.1, g.2.2.2.1⟩, rfl⟩⟩
          | exact ⟨by unfold moveV; rw [if_pos ⟨c_5, c_13⟩, if_neg (fun g => c_23 g.1)], Or.inl ⟨fun g => c_23 g.2.1, rfl⟩⟩
          | exact ⟨by unfold moveV; rw [if_pos ⟨c_5, c_13⟩, if_neg (fun g => c_31 g.2)], Or.inl ⟨fun g => c_31 g.2.2, rfl⟩⟩
          | exact ⟨by unfold moveV; rw [if_pos ⟨c_5, c_13⟩, if_pos ⟨c_23, c_31⟩], Or.inr ⟨⟨c_5, c_23, c_31⟩, hB_40, hS_40⟩⟩
    · try simp only [b01_0, bz_0, Classical.not_not] at c_13
      refine rj_iconst (pc := 16) dX11_move_16 ?_
      refine r_ireturn (pc := 17) .int dX11_move_17 rfl (by first | rfl | assumption) ?_
      first
      | exact ⟨by unfold moveV; rw [if_neg (fun g => c_5 g.1)], Or.inl ⟨fun g => c_5 g.1, rfl⟩⟩
      | exact ⟨by unfold moveV; rw [if_neg (fun g => c_13 g.2)], Or.inl ⟨fun g => c_13 ⟨g.2.2.1, g.2.2.2.1⟩, rfl⟩⟩
      | exact ⟨by unfold moveV; rw [if_pos ⟨c_5, c_13⟩, if_neg (fun g => c_23 g.1)], Or.inl ⟨fun g => c_23 g.2.1, rfl⟩⟩
      | exact ⟨by unfold moveV; rw [if_pos ⟨c_5, c_13⟩, if_neg (fun g => c_31 g.2)], Or.inl ⟨fun g => c_31 g.2.2, rfl⟩⟩
      | exact ⟨by unfold moveV; rw [if_pos ⟨c_5, c_13⟩, if_pos ⟨c_23, c_31⟩], Or.inr ⟨⟨c_5, c_23, c_31⟩, hB_40, hS_40⟩⟩
end mg_41
