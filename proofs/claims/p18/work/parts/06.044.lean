section mg_25
set_option maxHeartbeats 4000000 in
set_option maxRecDepth 100000 in
theorem m_isStepRead {G : mG} {l : Launch} (d : Nat) {h : mH} {x s : Nat} {f4 f6 f9 f14 f16 f18 : Int} {q : PS} {m kp was pool tape pln pap rwd rw sr : Nat → Int} (hB : isM h x (mFs x f4 f6 q.1 f9 q.2.1 q.2.2.1 q.2.2.2.1 q.2.2.2.2 f14 f16 f18 s) m kp was pool tape pln pap rwd rw) (hT : txOk s sr pool tape f9) (hq : psOk f9 q) {n : Nat} {w : Int} {it bh : Bool} {take inner : PS → Bool × PS} (hTk : ∀ (q : PS) (h : mH), isM h x (mFs x f4 f6 q.1 f9 q.2.1 q.2.2.1 q.2.2.2.1 q.2.2.2.2 f14 f16 f18 s) m kp was pool tape pln pap rwd rw → psOk f9 q → RUNM G l (n + 5) mX11_isTakeRead [.ref x, .int (J w)] h (fun v h' => v = some (.int (J (bz (take q).1))) ∧ isM h' x (mFs x f4 f6 ((take q).2).1 f9 ((take q).2).2.1 ((take q).2).2.2.1 ((take q).2).2.2.2.1 ((take q).2).2.2.2.2 f14 f16 f18 s) m kp was pool tape pln pap rwd rw ∧ Same (mBlk x) h h')) (hIn : bh = false → ∀ (q : PS) (h : mH), isM h x (mFs x f4 f6 q.1 f9 q.2.1 q.2.2.1 q.2.2.2.1 q.2.2.2.2 f14 f16 f18 s) m kp was pool tape pln pap rwd rw → psOk f9 q → RUNM G l (n + 5) mX11_isStepRead [.ref x, .int (J w), .int (J 0), .int (J 1)] h (fun v h' => v = some (.int (J (bz (inner q).1))) ∧ isM h' x (mFs x f4 f6 ((inner q).2).1 f9 ((inner q).2).2.1 ((inner q).2).2.2.1 ((inner q).2).2.2.2.1 ((inner q).2).2.2.2.2 f14 f16 f18 s) m kp was pool tape pln pap rwd rw ∧ Same (mBlk x) h h')) : RUNM G l (n + 6) mX11_isStepRead [.ref x, .int (J w), .int (J (bz it)), .int (J (bz bh))] h (fun v h' => v = some (.int (J (bz (stepR sr f9 take inner it bh q).1))) ∧ isM h' x (mFs x f4 f6 ((stepR sr f9 take inner it bh q).2).1 f9 ((stepR sr f9 take inner it bh q).2).2.1 ((stepR sr f9 take inner it bh q).2).2.2.1 ((stepR sr f9 take inner it bh q).2).2.2.2.1 ((stepR sr f9 take inner it bh q).2).2.2.2.2 f14 f16 f18 s) m kp was pool tape pln pap rwd rw ∧ Same (mBlk x) h h') := by
  dsimp only [mFs] at hB
  refine RUNM.of (by decide +kernel) (Nat.le_of_ble_eq_true rfl) ?_
  have hB0 := hB
  obtain ⟨hq1, hq2, hq3, hq4, hq5, hq6, hq7, hq8⟩ := id hq
  obtain ⟨hs, hl0, hby⟩ := id hT
  have hh := here_r hT q.1
  refine r_aload_n (pc := 0) dX11_isStepRead_0 rfl (by first | rfl | exact isRefV_rf _) ?_
  refine r_callV0 (pc := 1) dX11_isStepRead_1 qX11_here kX11_74 vX11_here (by exact isM.gx (by assumption)) rfl rfl (Nat.le_of_ble_eq_true rfl) (m_here (n + 5) hB0 hT hq) (fun v_1 h_1 q_1 => ?_)
  obtain ⟨rfl, rfl⟩ := q_1
  refine r_istore (pc := 4) dX11_isStepRead_4 (Nat.le_of_ble_eq_true rfl) ?_
  dsimp only [lsSt, List.set, mLs, mEnt]
  refine r_iload (pc := 6) dX11_isStepRead_6 rfl ?_
  refine rj_bipush (pc := 8) dX11_isStepRead_8 (by decide +kernel) ?_
  refine rj_icmp_eq (pc := 10) (tgt := 91) dX11_isStepRead_10 (by decide) (by first | assumption | exact b01_r | exact bz_r | omega | (constructor <;> omega) | exact hM _ | exact hPo _ | exact hTa _ | exact hRo _) (by first | assumption | exact b01_r | exact bz_r | omega | (constructor <;> omega) | exact hM _ | exact hPo _ | exact hTa _ | exact hRo _) (fun c_10 => ?_) (fun c_10 => ?_)
  · refine rj_iconst (pc := 91) dX11_isStepRead_91 ?_
    refine r_goto (pc := 92) (tgt := 96) dX11_isStepRead_92 (by decide) ?_
    refine r_istore (pc := 96) dX11_isStepRead_96 (Nat.le_of_ble_eq_true rfl) ?_
    dsimp only [lsSt, List.set, mLs, mEnt]
    have ok : stepOk (hereF sr f9 q.1) it bh q := Or.inl c_10
    have z := L_step98 (G := G) (l := l) n (it := it) (bh := bh) hB0 hT hq hTk hIn
    rw [b01_t ok] at z
    exact z
  · refine r_iload (pc := 13) dX11_isStepRead_13 rfl ?_
    refine rj_bipush (pc := 15) dX11_isStepRead_15 (by decide +kernel) ?_
    refine rj_icmp_eq (pc := 17) (tgt := 91) dX11_isStepRead_17 (by decide) (by first | assumption | exact b01_r | exact bz_r | omega | (constructor <;> omega) | exact hM _ | exact hPo _ | exact hTa _ | exact hRo _) (by first | assumption | exact b01_r | exact bz_r | omega | (constructor <;> omega) | exact hM _ | exact hPo _ | exact hTa _ | exact hRo _) (fun c_17 => ?_) (fun c_17 => ?_)
    · refine rj_iconst (pc := 91) dX11_isStepRead_91 ?_
      refine r_goto (pc := 92) (tgt := 96) dX11_isStepRead_92 (by decide) ?_
      refine r_istore (pc := 96) dX11_isStepRead_96 (Nat.le_of_ble_eq_true rfl) ?_
      dsimp only [lsSt, List.set, mLs, mEnt]
      have ok : stepOk (hereF sr f9 q.1) it bh q := Or.inr (Or.inl c_17)
      have z := L_step98 (G := G) (l := l) n (it := it) (bh := bh) hB0 hT hq hTk hIn
      rw [b01_t ok] at z
      exact z
    · refine r_iload (pc := 20) dX11_isStepRead_20 rfl ?_
      refine rj_bipush (pc := 22) dX11_isStepRead_22 (by decide +kernel) ?_
      refine rj_icmp_eq (pc := 24) (tgt := 91) dX11_isStepRead_24 (by decide) (by first | assumption | exact b01_r | exact bz_r | omega | (constructor <;> omega) | exact hM _ | exact hPo _ | exact hTa _ | exact hRo _) (by first | assumption | exact b01_r | exact bz_r | omega | (constructor <;> omega) | exact hM _ | exact hPo _ | exact hTa _ | exact hRo _) (fun c_24 => ?_) (fun c_24 => ?_)
      · refine rj_iconst (pc := 91) dX11_isStepRead_91 ?_
        refine r_goto (pc := 92) (tgt := 96) dX11_isStepRead_92 (by decide) ?_
        refine r_istore (pc := 96) dX11_isStepRead_96 (Nat.le_of_ble_eq_true rfl) ?_
        dsimp only [lsSt, List.set, mLs, mEnt]
        have ok : stepOk (hereF sr f9 q.1) it bh q := Or.inr (Or.inr (Or.inl c_24))
        have z := L_step98 (G := G) (l := l) n (it := it) (bh := bh) hB0 hT hq hTk hIn
        rw [b01_t ok] at z
        exact z
      · refine r_iload (pc := 27) dX11_isStepRead_27 rfl ?_
        refine rj_bipush (pc := 29) dX11_isStepRead_29 (by decide +kernel) ?_
        refine rj_icmp_eq (pc := 31) (tgt := 91) dX11_isStepRead_31 (by decide) (by first | assumption | exact b01_r | exact bz_r | omega | (constructor <;> omega) | exact hM _ | exact hPo _ | exact hTa _ | exact hRo _) (by first | assumption | exact b01_r | exact bz_r | omega | (constructor <;> omega) | exact hM _ | exact hPo _ | exact hTa _ | exact hRo _) (fun c_31 => ?_) (fun c_31 => ?_)
        · refine rj_iconst (pc := 91) dX11_isStepRead_91 ?_
          refine r_goto (pc := 92) (tgt := 96) dX11_isStepRead_92 (by decide) ?_
          refine r_istore (pc := 96) dX11_isStepRead_96 (Nat.le_of_ble_eq_true rfl) ?_
          dsimp only [lsSt, List.set, mLs, mEnt]
          have ok : stepOk (hereF sr f9 q.1) it bh q := Or.inr (Or.inr (Or.inr (Or.inl c_31)))
          have z := L_step98 (G := G) (l := l) n (it := it) (bh := bh) hB0 hT hq hTk hIn
          rw [b01_t ok] at z
          exact z
        · refine r_iload (pc := 34) dX11_isStepRead_34 rfl ?_
          refine rj_bipush (pc := 36) dX11_isStepRead_36 (by decide +kernel) ?_
          refine rj_icmp_eq (pc := 38) (tgt := 91) dX11_isStepRead_38 (by decide) (by first | assumption | exact b01_r | exact bz_r | omega | (constructor <;> omega) | exact hM _ | exact hPo _ | exact hTa _ | exact hRo _) (by first | assumption | exact b01_r | exact bz_r | omega | (constructor <;> omega) | exact hM _ | exact hPo _ | exact hTa _ | exact hRo _) (fun c_38 => ?_) (fun c_38 => ?_)
          · refine rj_iconst (pc := 91) dX11_isStepRead_91 ?_
            refine r_goto (pc := 92) (tgt := 96) dX11_isStepRead_92 (by decide) ?_
            refine r_istore (pc := 96) dX11_isStepRead_96 (Nat.le_of_ble_eq_true rfl) ?_
            dsimp only [lsSt, List.set, mLs, mEnt]
            have ok : stepOk (hereF sr f9 q.1) it bh q := Or.inr (Or.inr (Or.inr (Or.inr (Or.inl c_38))))
            have z := L_step98 (G := G) (l := l) n (it := it) (bh := bh) hB0 hT hq hTk hIn
            rw [b01_t ok] at z
            exact z
          · refine r_iload (pc := 41) dX11_isStepRead_41 rfl ?_
            refine rj_bipush (pc := 43) dX11_isStepRead_43 (by decide +kernel) ?_
            refine rj_icmp_eq (pc := 45) (tgt := 91) dX11_isStepRead_45 (by decide) (by first | assumption | exact b01_r | exact bz_r | omega | (constructor <;> omega) | exact hM _ | exact hPo _ | exact hTa _ | exact hRo _) (by first | assumption | exact b01_r | exact bz_r | omega | (constructor <;> omega) | exact hM _ | exact hPo _ | exact hTa _ | exact hRo _) (fun c_45 => ?_) (fun c_45 => ?_)
            · refine rj_iconst (pc := 91) dX11_isStepRead_91 ?_
              refine r_goto (pc := 92) (tgt := 96) dX11_isStepRead_92 (by decide) ?_
              refine r_istore (pc := 96) dX11_isStepRead_96 (Nat.le_of_ble_eq_true rfl) ?_
              dsimp only [lsSt, List.set, mLs, mEnt]
              have ok : stepOk (hereF sr f9 q.1) it bh q := Or.inr (Or.inr (Or.inr (Or.inr (Or.inr (Or.inl c_45)))))
              have z := L_step98 (G := G) (l := l) n (it := it) (bh := bh) hB0 hT hq hTk hIn
              rw [b01_t ok] at z
              exact z
            · refine r_iload (pc := 48) dX11_isStepRead_48 rfl ?_
              refine rj_bipush (pc := 50) dX11_isStepRead_50 (by decide +kernel) ?_
              refine rj_icmp_eq (pc := 52) (tgt := 91) dX11_isStepRead_52 (by decide) (by first | assumption | exact b01_r | exact bz_r | omega | (constructor <;> omega) | exact hM _ | exact hPo _ | exact hTa _ | exact hRo _) (by first | assumption | exact b01_r | exact bz_r | omega | (constructor <;> omega) | exact hM _ | exact hPo _ | exact hTa _ | exact hRo _) (fun c_52 => ?_) (fun c_52 => ?_)
              · refine rj_iconst (pc := 91) dX11_isStepRead_91 ?_
                refine r_goto (pc := 92) (tgt := 96) dX11_isStepRead_92 (by decide) ?_
                refine r_istore (pc := 96) dX11_isStepRead_96 (Nat.le_of_ble_eq_true rfl) ?_
                dsimp only [lsSt, List.set, mLs, mEnt]
                have ok : stepOk (hereF sr f9 q.1) it bh q := Or.inr (Or.inr (Or.inr (Or.inr (Or.inr (Or.inr (Or.inl c_52))))))
                have z := L_step98 (G := G) (l := l) n (it := it) (bh := bh) hB0 hT hq hTk hIn
                rw [b01_t ok] at z
                exact z
              · refine r_iload (pc := 55) dX11_isStepRead_55 rfl ?_
                refine rj_bipush (pc := 57) dX11_isStepRead_57 (by decide +kernel) ?_
                refine rj_icmp_ne (pc := 59) (tgt := 66) dX11_isStepRead_59 (by decide) (by first | assumption | exact b01_r | exact bz_r | omega | (constructor <;> omega) | exact hM _ | exact hPo _ | exact hTa _ | exact hRo _) (by first | assumption | exact b01_r | exact bz_r | omega | (constructor <;> omega) | exact hM _ | exact hPo _ | exact hTa _ | exact hRo _) (fun c_59 => ?_) (fun c_59 => ?_)
                · refine r_iload (pc := 66) dX11_isStepRead_66 rfl ?_
                  refine rj_bipush (pc := 68) dX11_isStepRead_68 (by decide +kernel) ?_
                  refine rj_icmp_eq (pc := 70) (tgt := 87) dX11_isStepRead_70 (by decide) (by first | assumption | exact b01_r | exact bz_r | omega | (constructor <;> omega) | exact hM _ | exact hPo _ | exact hTa _ | exact hRo _) (by first | assumption | exact b01_r | exact bz_r | omega | (constructor <;> omega) | exact hM _ | exact hPo _ | exact hTa _ | exact hRo _) (fun c_70 => ?_) (fun c_70 => ?_)
                  · refine r_iload_n (pc := 87) dX11_isStepRead_87 rfl ?_
                    refine rj_if_eq (pc := 88) (tgt := 95) dX11_isStepRead_88 (by decide) (by first | assumption | exact b01_r | exact bz_r | omega | (constructor <;> omega) | exact hM _ | exact hPo _ | exact hTa _ | exact hRo _) (fun c_88 => ?_) (fun c_88 => ?_)
                    · try simp only [b01_0, bz_0, Classical.not_not] at c_88
                      refine rj_iconst (pc := 95) dX11_isStepRead_95 ?_
                      refine r_istore (pc := 96) dX11_isStepRead_96 (Nat.le_of_ble_eq_true rfl) ?_
                      dsimp only [lsSt, List.set, mLs, mEnt]
                      have ok : ¬ stepOk (hereF sr f9 q.1) it bh q := by
                        intro g
                        rcases g with g | g | g | g | g | g | g | ⟨g1, g2⟩ | ⟨g1 | ⟨g1, g3⟩, g2⟩ <;> first | omega | (simp_all; done) | (simp_all; omega)
                      have z := L_step98 (G := G) (l := l) n (it := it) (bh := bh) hB0 hT hq hTk hIn
                      rw [b01_f ok] at z
                      exact z
                    · try simp only [b01_0, bz_0, Classical.not_not] at c_88
                      refine rj_iconst (pc := 91) dX11_isStepRead_91 ?_
                      refine r_goto (pc := 92) (tgt := 96) dX11_isStepRead_92 (by decide) ?_
                      refine r_istore (pc := 96) dX11_isStepRead_96 (Nat.le_of_ble_eq_true rfl) ?_
                      dsimp only [lsSt, List.set, mLs, mEnt]
                      have ok : stepOk (hereF sr f9 q.1) it bh q := Or.inr (Or.inr (Or.inr (Or.inr (Or.inr (Or.inr (Or.inr (Or.inr (⟨Or.inl c_70, c_88⟩))))))))
                      have z := L_step98 (G := G) (l := l) n (it := it) (bh := bh) hB0 hT hq hTk hIn
                      rw [b01_t ok] at z
                      exact z
                  · refine r_iload (pc := 73) dX11_isStepRead_73 rfl ?_
                    refine rj_bipush (pc := 75) dX11_isStepRead_75 (by decide +kernel) ?_
                    refine rj_icmp_ne (pc := 77) (tgt := 95) dX11_isStepRead_77 (by decide) (by first | assumption | exact b01_r | exact bz_r | omega | (constructor <;> omega) | exact hM _ | exact hPo _ | exact hTa _ | exact hRo _) (by first | assumption | exact b01_r | exact bz_r | omega | (constructor <;> omega) | exact hM _ | exact hPo _ | exact hTa _ | exact hRo _) (fun c_77 => ?_) (fun c_77 => ?_)
                    · refine rj_iconst (pc := 95) dX11_isStepRead_95 ?_
                      refine r_istore (pc := 96) dX11_isStepRead_96 (Nat.le_of_ble_eq_true rfl) ?_
                      dsimp only [lsSt, List.set, mLs, mEnt]
                      have ok : ¬ stepOk (hereF sr f9 q.1) it bh q := by
                        intro g
                        rcases g with g | g | g | g | g | g | g | ⟨g1, g2⟩ | ⟨g1 | ⟨g1, g3⟩, g2⟩ <;> first | omega | (simp_all; done) | (simp_all; omega)
                      have z := L_step98 (G := G) (l := l) n (it := it) (bh := bh) hB0 hT hq hTk hIn
                      rw [b01_f ok] at z
                      exact z
                    · refine r_aload_n (pc := 80) dX11_isStepRead_80 rfl (by first | rfl | exact isRefV_rf _) ?_
                      refine rm_getf (pc := 81) dX11_isStepRead_81 fX11_99 (by assumption) rfl ?_
                      refine rj_if_le (pc := 84) (tgt := 95) dX11_isStepRead_84 (by decide) (by first | assumption | exact b01_r | exact bz_r | omega | (constructor <;> omega) | exact hM _ | exact hPo _ | exact hTa _ | exact hRo _) (fun c_84 => ?_) (fun c_84 => ?_)
                      · refine rj_iconst (pc := 95) dX11_isStepRead_95 ?_
                        refine r_istore (pc := 96) dX11_isStepRead_96 (Nat.le_of_ble_eq_true rfl) ?_
                        dsimp only [lsSt, List.set, mLs, mEnt]
                        have ok : ¬ stepOk (hereF sr f9 q.1) it bh q := by
                          intro g
                          rcases g with g | g | g | g | g | g | g | ⟨g1, g2⟩ | ⟨g1 | ⟨g1, g3⟩, g2⟩ <;> first | omega | (simp_all; done) | (simp_all; omega)
                        have z := L_step98 (G := G) (l := l) n (it := it) (bh := bh) hB0 hT hq hTk hIn
                        rw [b01_f ok] at z
                        exact z
                      · refine r_iload_n (pc := 87) dX11_isStepRead_87 rfl ?_
                        refine rj_if_eq (pc := 88) (tgt := 95) dX11_isStepRead_88 (by decide) (by first | assumption | exact b01_r | exact bz_r | omega | (constructor <;> omega) | exact hM _ | exact hPo _ | exact hTa _ | exact hRo _) (fun c_88 => ?_) (fun c_88 => ?_)
                        · try simp only [b01_0, bz_0, Classical.not_not] at c_88
                          refine rj_iconst (pc := 95) dX11_isStepRead_95 ?_
                          refine r_istore (pc := 96) dX11_isStepRead_96 (Nat.le_of_ble_eq_true rfl) ?_
                          dsimp only [lsSt, List.set, mLs, mEnt]
                          have ok : ¬ stepOk (hereF sr f9 q.1) it bh q := by
                            intro g
                            rcases g with g | g | g | g | g | g | g | ⟨g1, g2⟩ | ⟨g1 | ⟨g1, g3⟩, g2⟩ <;> first | omega | (simp_all; done) | (simp_all; omega)
                          have z := L_step98 (G := G) (l := l) n (it := it) (bh := bh) hB0 hT hq hTk hIn
                          rw [b01_f ok] at z
                          exact z
                        · try simp only [b01_0, bz_0, Classical.not_not] at c_88
                          refine rj_iconst (pc := 91) dX11_isStepRead_91 ?_
                          refine r_goto (pc := 92) (tgt := 96) dX11_isStepRead_92 (by decide) ?_
                          refine r_istore (pc := 96) dX11_isStepRead_96 (Nat.le_of_ble_eq_true rfl) ?_
                          dsimp only [lsSt, List.set, mLs, mEnt]
                          have ok : stepOk (hereF sr f9 q.1) it bh q := Or.inr (Or.inr (Or.inr (Or.inr (Or.inr (Or.inr (Or.inr (Or.inr (⟨Or.inr ⟨c_77, by omega⟩, c_88⟩))))))))
                          have z := L_step98 (G := G) (l := l) n (it := it) (bh := bh) hB0 hT hq hTk hIn
                          rw [b01_t ok] at z
                          exact z
                · refine r_iload_n (pc := 62) dX11_isStepRead_62 rfl ?_
                  refine rj_if_eq (pc := 63) (tgt := 91) dX11_isStepRead_63 (by decide) (by first | assumption | exact b01_r | exact bz_r | omega | (constructor <;> omega) | exact hM _ | exact hPo _ | exact hTa _ | exact hRo _) (fun c_63 => ?_) (fun c_63 => ?_)
                  · try simp only [b01_0, bz_0, Classical.not_not] at c_63
                    refine rj_iconst (pc := 91) dX11_isStepRead_91 ?_
                    refine r_goto (pc := 92) (tgt := 96) dX11_isStepRead_92 (by decide) ?_
                    refine r_istore (pc := 96) dX11_isStepRead_96 (Nat.le_of_ble_eq_true rfl) ?_
                    dsimp only [lsSt, List.set, mLs, mEnt]
                    have ok : stepOk (hereF sr f9 q.1) it bh q := Or.inr (Or.inr (Or.inr (Or.inr (Or.inr (Or.inr (Or.inr (Or.inl ⟨c_59, by simpa using c_63⟩)))))))
                    have z := L_step98 (G := G) (l := l) n (it := it) (bh := bh) hB0 hT hq hTk hIn
                    rw [b01_t ok] at z
                    exact z
                  · try simp only [b01_0, bz_0, Classical.not_not] at c_63
                    refine r_iload (pc := 66) dX11_isStepRead_66 rfl ?_
                    refine rj_bipush (pc := 68) dX11_isStepRead_68 (by decide +kernel) ?_
                    refine rj_icmp_eq (pc := 70) (tgt := 87) dX11_isStepRead_70 (by decide) (by first | assumption | exact b01_r | exact bz_r | omega | (constructor <;> omega) | exact hM _ | exact hPo _ | exact hTa _ | exact hRo _) (by first | assumption | exact b01_r | exact bz_r | omega | (constructor <;> omega) | exact hM _ | exact hPo _ | exact hTa _ | exact hRo _) (fun c_70 => ?_) (fun c_70 => ?_)
                    · refine r_iload_n (pc := 87) dX11_isStepRead_87 rfl ?_
                      refine rj_if_eq (pc := 88) (tgt := 95) dX11_isStepRead_88 (by decide) (by first | assumption | exact b01_r | exact bz_r | omega | (constructor <;> omega) | exact hM _ | exact hPo _ | exact hTa _ | exact hRo _) (fun c_88 => ?_) (fun c_88 => ?_)
                      · try simp only [b01_0, bz_0, Classical.not_not] at c_88
                        refine rj_iconst (pc := 95) dX11_isStepRead_95 ?_
                        refine r_istore (pc := 96) dX11_isStepRead_96 (Nat.le_of_ble_eq_true rfl) ?_
                        dsimp only [lsSt, List.set, mLs, mEnt]
                        have ok : ¬ stepOk (hereF sr f9 q.1) it bh q := by
                          intro g
                          rcases g with g | g | g | g | g | g | g | ⟨g1, g2⟩ | ⟨g1 | ⟨g1, g3⟩, g2⟩ <;> first | omega | (simp_all; done) | (simp_all; omega)
                        have z := L_step98 (G := G) (l := l) n (it := it) (bh := bh) hB0 hT hq hTk hIn
                        rw [b01_f ok] at z
                        exact z
                      · try simp only [b01_0, bz_0, Classical.not_not] at c_88
                        refine rj_iconst (pc := 91) dX11_isStepRead_91 ?_
                        refine r_goto (pc := 92) (tgt := 96) dX11_isStepRead_92 (by decide) ?_
                        refine r_istore (pc := 96) dX11_isStepRead_96 (Nat.le_of_ble_eq_true rfl) ?_
                        dsimp only [lsSt, List.set, mLs, mEnt]
                        have ok : stepOk (hereF sr f9 q.1) it bh q := Or.inr (Or.inr (Or.inr (Or.inr (Or.inr (Or.inr (Or.inr (Or.inr (⟨Or.inl c_70, c_88⟩))))))))
                        have z := L_step98 (G := G) (l := l) n (it := it) (bh := bh) hB0 hT hq hTk hIn
                        rw [b01_t ok] at z
                        exact z
                    · refine r_iload (pc := 73) dX11_isStepRead_73 rfl ?_
                      refine rj_bipush (pc := 75) dX11_isStepRead_75 (by decide +kernel) ?_
                      refine rj_icmp_ne (pc := 77) (tgt := 95) dX11_isStepRead_77 (by decide) (by first | assumption | exact b01_r | exact bz_r | omega | (constructor <;> omega) | exact hM _ | exact hPo _ | exact hTa _ | exact hRo _) (by first | assumption | exact b01_r | exact bz_r | omega | (constructor <;> omega) | exact hM _ | exact hPo _ | exact hTa _ | exact hRo _) (fun c_77 => ?_) (fun c_77 => ?_)
                      · refine rj_iconst (pc := 95) dX11_isStepRead_95 ?_
                        refine r_istore (pc := 96) dX11_isStepRead_96 (Nat.le_of_ble_eq_true rfl) ?_
                        dsimp only [lsSt, List.set, mLs, mEnt]
                        have ok : ¬ stepOk (hereF sr f9 q.1) it bh q := by
                          intro g
                          rcases g with g | g | g | g | g | g | g | ⟨g1, g2⟩ | ⟨g1 | ⟨g1, g3⟩, g2⟩ <;> first | omega | (simp_all; done) | (simp_all; omega)
                        have z := L_step98 (G := G) (l := l) n (it := it) (bh := bh) hB0 hT hq hTk hIn
                        rw [b01_f ok] at z
                        exact z
                      · refine r_aload_n (pc := 80) dX11_isStepRead_80 rfl (by first | rfl | exact isRefV_rf _) ?_
                        refine rm_getf (pc := 81) dX11_isStepRead_81 fX11_99 (by assumption) rfl ?_
                        refine rj_if_le (pc := 84) (tgt := 95) dX11_isStepRead_84 (by decide) (by first | assumption | exact b01_r | exact bz_r | omega | (constructor <;> omega) | exact hM _ | exact hPo _ | exact hTa _ | exact hRo _) (fun c_84 => ?_) (fun c_84 => ?_)
                        · refine rj_iconst (pc := 95) dX11_isStepRead_95 ?_
                          refine r_istore (pc := 96) dX11_isStepRead_96 (Nat.le_of_ble_eq_true rfl) ?_
                          dsimp only [lsSt, List.set, mLs, mEnt]
                          have ok : ¬ stepOk (hereF sr f9 q.1) it bh q := by
                            intro g
                            rcases g with g | g | g | g | g | g | g | ⟨g1, g2⟩ | ⟨g1 | ⟨g1, g3⟩, g2⟩ <;> first | omega | (simp_all; done) | (simp_all; omega)
                          have z := L_step98 (G := G) (l := l) n (it := it) (bh := bh) hB0 hT hq hTk hIn
                          rw [b01_f ok] at z
                          exact z
                        · refine r_iload_n (pc := 87) dX11_isStepRead_87 rfl ?_
                          refine rj_if_eq (pc := 88) (tgt := 95) dX11_isStepRead_88 (by decide) (by first | assumption | exact b01_r | exact bz_r | omega | (constructor <;> omega) | exact hM _ | exact hPo _ | exact hTa _ | exact hRo _) (fun c_88 => ?_) (fun c_88 => ?_)
                          · try simp only [b01_0, bz_0, Classical.not_not] at c_88
                            refine rj_iconst (pc := 95) dX11_isStepRead_95 ?_
                            refine r_istore (pc := 96) dX11_isStepRead_96 (Nat.le_of_ble_eq_true rfl) ?_
                            dsimp only [lsSt, List.set, mLs, mEnt]
                            have ok : ¬ stepOk (hereF sr f9 q.1) it bh q := by
                              intro g
                              rcases g with g | g | g | g | g | g | g | ⟨g1, g2⟩ | ⟨g1 | ⟨g1, g3⟩, g2⟩ <;> first | omega | (simp_all; done) | (simp_all; omega)
                            have z := L_step98 (G := G) (l := l) n (it := it) (bh := bh) hB0 hT hq hTk hIn
                            rw [b01_f ok] at z
                            exact z
                          · try simp only [b01_0, bz_0, Classical.not_not] at c_88
                            refine rj_iconst (pc := 91) dX11_isStepRead_91 ?_
                            refine r_goto (pc := 92) (tgt := 96) dX11_isStepRead_92 (by decide) ?_
                            refine r_istore (pc := 96) dX11_isStepRead_96 (Nat.le_of_ble_eq_true rfl) ?_
                            dsimp only [lsSt, List.set, mLs, mEnt]
                            have ok : stepOk (hereF sr f9 q.1) it bh q := Or.inr (Or.inr (Or.inr (Or.inr (Or.inr (Or.inr (Or.inr (Or.inr (⟨Or.inr ⟨c_77, by omega⟩, c_88⟩))))))))
                            have z := L_step98 (G := G) (l := l) n (it := it) (bh := bh) hB0 hT hq hTk hIn
                            rw [b01_t ok] at z
                            exact z
end mg_25
