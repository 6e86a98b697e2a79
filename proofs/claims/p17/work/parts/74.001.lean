set_option maxHeartbeats 4000000 in
set_option maxRecDepth 100000 in
theorem L_plansOf {G : mG} {l : Launch} {D : Nat} (hD : 4 ≤ D) {x s : Nat} {f4 f6 f8 f9 f10 f11 f12 f13 f14 f18 : Int} {m kp was pool tape pap rwd rw : Nat → Int} (hok : mOk m) {pl : Int → (Nat → Int) → Nat → (Nat → Int) → Nat → Prop} (hpl : ∀ (s2 : Int) (p : Nat → Int) (k : Nat) (p' : Nat → Int) (k' : Nat) (h : mH), InR s2 → pl s2 p k p' k' → isM h x (mFs x f4 f6 f8 f9 f10 f11 f12 f13 f14 (k : Int) f18 s) m kp was pool tape p pap rwd rw → RUNM G l D mX11_plansOf [.ref x, .int (J s2)] h (fun v h' => v = none ∧ isM h' x (mFs x f4 f6 f8 f9 f10 f11 f12 f13 f14 (k' : Int) f18 s) m kp was pool tape p' pap rwd rw ∧ Same (mBlk x) h h')) {s2 : Int} (hs : InR s2) {p' : Nat → Int} {k' : Nat} : ∀ (j : Nat) (e : Int) (p : Nat → Int) (k : Nat) (h : mH), -5 ≤ e → e ≤ 159 → plLR pl m s2 j e p k p' k' → isM h x (mFs x f4 f6 f8 f9 f10 f11 f12 f13 f14 (k : Int) f18 s) m kp was pool tape p pap rwd rw → RUN G l (D + 1) mX11_plansOf 15 [some (.ref x), some (.int (J s2)), some (.int (J e))] [] h (fun v h' => v = none ∧ isM h' x (mFs x f4 f6 f8 f9 f10 f11 f12 f13 f14 (k' : Int) f18 s) m kp was pool tape p' pap rwd rw ∧ Same (mBlk x) h h') := by
  obtain ⟨hM, k0, k1, k2, k3, k4, k5, k7⟩ := id hok
  intro j
  induction j with
  | zero =>
    intro e p k h he he2 hR hB
    obtain ⟨hlt, rfl, rfl⟩ := hR
    have hB0 := hB
    refine r_iload_n (pc := 15) dX11_plansOf_15 rfl ?_
    refine rj_if_lt (pc := 16) (tgt := 70) dX11_plansOf_16 (by decide) (by first | assumption | exact b01_r | exact bz_r | omega | (constructor <;> omega) | exact hM _ | exact hPo _ | exact hTa _ | exact hRo _) (fun c_16 => ?_) (fun c_16 => ?_)
    · refine r_return (pc := 70) dX11_plansOf_70 rfl ?_
      exact ⟨rfl, hB0, Same.refl⟩
    · exfalso; omega
  | succ j ih =>
    intro e p k h he he2 hR hB
    have hB0 := hB
    have rs := stampI_r hM e
    have re := eaI_r (m := m) (s := s2) (st := stampI m e)
    rcases hR with ⟨hlt, rfl, rfl⟩ | ⟨hlt, hk, hR⟩ | ⟨hlt, p1, k1, hc, hR⟩
    · refine r_iload_n (pc := 15) dX11_plansOf_15 rfl ?_
      refine rj_if_lt (pc := 16) (tgt := 70) dX11_plansOf_16 (by decide) (by first | assumption | exact b01_r | exact bz_r | omega | (constructor <;> omega) | exact hM _ | exact hPo _ | exact hTa _ | exact hRo _) (fun c_16 => ?_) (fun c_16 => ?_)
      · refine r_return (pc := 70) dX11_plansOf_70 rfl ?_
        exact ⟨rfl, hB0, Same.refl⟩
      · exfalso; omega
    · dsimp only [mFs] at hB
      refine r_iload_n (pc := 15) dX11_plansOf_15 rfl ?_
      refine rj_if_lt (pc := 16) (tgt := 70) dX11_plansOf_16 (by decide) (by first | assumption | exact b01_r | exact bz_r | omega | (constructor <;> omega) | exact hM _ | exact hPo _ | exact hTa _ | exact hRo _) (fun c_16 => ?_) (fun c_16 => ?_)
      · exfalso; omega
      · refine r_iload_n (pc := 19) dX11_plansOf_19 rfl ?_
        refine rj_bipush (pc := 20) dX11_plansOf_20 (by decide +kernel) ?_
        refine rj_icmp_lt (pc := 22) (tgt := 36) dX11_plansOf_22 (by decide) (by first | assumption | exact b01_r | exact bz_r | omega | (constructor <;> omega) | exact hM _ | exact hPo _ | exact hTa _ | exact hRo _) (by first | assumption | exact b01_r | exact bz_r | omega | (constructor <;> omega) | exact hM _ | exact hPo _ | exact hTa _ | exact hRo _) (fun c_22 => ?_) (fun c_22 => ?_)
        · refine r_aload_n (pc := 36) dX11_plansOf_36 rfl (by first | rfl | exact isRefV_rf _) ?_
          refine rm_getf (pc := 37) dX11_plansOf_37 fX11_30 (by assumption) rfl ?_
          refine r_aload_n (pc := 40) dX11_plansOf_40 rfl (by first | rfl | exact isRefV_rf _) ?_
          refine rm_getf (pc := 41) dX11_plansOf_41 fX11_273 (by assumption) rfl ?_
          refine r_iload_n (pc := 44) dX11_plansOf_44 rfl ?_
          first | refine rm_iast5 (pc := 45) (j := k) dX11_plansOf_45 (by assumption) (by first | assumption | exact b01_r | exact bz_r | omega | (constructor <;> omega) | exact hM _ | exact hPo _ | exact hTa _ | exact hRo _) (by first | assumption | exact b01_r | exact bz_r | omega | (constructor <;> omega) | exact hM _ | exact hPo _ | exact hTa _ | exact hRo _) (by first | assumption | exact b01_r | exact bz_r | omega | (constructor <;> omega) | exact hM _ | exact hPo _ | exact hTa _ | exact hRo _) (by omega) (fun h_45 hB_45 hS_45 => ?_)
          refine r_aload_n (pc := 46) dX11_plansOf_46 rfl (by first | rfl | exact isRefV_rf _) ?_
          refine r_dup (pc := 47) dX11_plansOf_47 (by first | rfl | (cases ‹Option Nat› <;> rfl)) ?_
          refine rm_getf (pc := 48) dX11_plansOf_48 fX11_273 (by assumption) rfl ?_
          refine rj_iconst (pc := 51) dX11_plansOf_51 ?_
          refine rj_iadd (pc := 52) dX11_plansOf_52 ?_
          refine rm_putf (pc := 53) dX11_plansOf_53 fX11_273 (by assumption) rfl rfl (Nat.le_of_ble_eq_true rfl) (fun h_53 hB_53 hS_53 => ?_)
          dsimp only [List.set, mFs] at hB_53
          have hB_53b : isM h_53 x (mFs x f4 f6 f8 f9 f10 f11 f12 f13 f14 ((k + 1 : Nat) : Int) f18 s) m kp was pool tape (updI p k e) pap rwd rw := by rw [show ((k + 1 : Nat) : Int) = (k : Int) + 1 by omega]; exact hB_53
          refine r_aload_n (pc := 56) dX11_plansOf_56 rfl (by first | rfl | exact isRefV_rf _) ?_
          refine r_iload_n (pc := 57) dX11_plansOf_57 rfl ?_
          refine r_aload_n (pc := 58) dX11_plansOf_58 rfl (by first | rfl | exact isRefV_rf _) ?_
          refine r_iload_n (pc := 59) dX11_plansOf_59 rfl ?_
          refine r_callV1 (pc := 60) dX11_plansOf_60 qX11_stampOf kX11_258 vX11_stampOf (by exact isM.gx (by assumption)) rfl rfl (Nat.le_of_ble_eq_true rfl) ((m_stampOfI 0 hB_53b he2 he).deeper (by omega)) (fun v_60 h_60 q_60 => ?_)
          obtain ⟨rfl, rfl⟩ := q_60
          refine r_callV2 (pc := 63) dX11_plansOf_63 qX11_entryAhead kX11_261 vX11_entryAhead (by exact isM.gx (by assumption)) rfl rfl (Nat.le_of_ble_eq_true rfl) (by have y := m_entryAhead (G := G) (l := l) 0 hB_53b hM (N := (m 1).toNat) (C := (m 0).toNat) (by omega) (by omega) (by omega) (by omega) (a := s2) hs (st := stampI m e) rs; rw [show eaL m (m 1).toNat (m 0).toNat s2 (stampI m e) 160 0 (-5) = eaI m s2 (stampI m e) from rfl] at y; exact y.deeper (by omega)) (fun v_63 h_63 q_63 => ?_)
          obtain ⟨rfl, rfl⟩ := q_63
          refine r_istore_n (pc := 66) dX11_plansOf_66 (Nat.le_of_ble_eq_true rfl) ?_
          dsimp only [lsSt, List.set, mLs, mEnt]
          refine r_goto (pc := 67) (tgt := 15) dX11_plansOf_67 (by decide) ?_
          exact (ih _ _ (k + 1) _ re.1 re.2 hR hB_53b).mono (fun v h' q => ⟨q.1, q.2.1, (hS_45.trans hS_53).trans q.2.2⟩)
        · exfalso; omega
    · dsimp only [mFs] at hB
      refine r_iload_n (pc := 15) dX11_plansOf_15 rfl ?_
      refine rj_if_lt (pc := 16) (tgt := 70) dX11_plansOf_16 (by decide) (by first | assumption | exact b01_r | exact bz_r | omega | (constructor <;> omega) | exact hM _ | exact hPo _ | exact hTa _ | exact hRo _) (fun c_16 => ?_) (fun c_16 => ?_)
      · exfalso; omega
      · refine r_iload_n (pc := 19) dX11_plansOf_19 rfl ?_
        refine rj_bipush (pc := 20) dX11_plansOf_20 (by decide +kernel) ?_
        refine rj_icmp_lt (pc := 22) (tgt := 36) dX11_plansOf_22 (by decide) (by first | assumption | exact b01_r | exact bz_r | omega | (constructor <;> omega) | exact hM _ | exact hPo _ | exact hTa _ | exact hRo _) (by first | assumption | exact b01_r | exact bz_r | omega | (constructor <;> omega) | exact hM _ | exact hPo _ | exact hTa _ | exact hRo _) (fun c_22 => ?_) (fun c_22 => ?_)
        · exfalso; omega
        · refine r_aload_n (pc := 25) dX11_plansOf_25 rfl (by first | rfl | exact isRefV_rf _) ?_
          refine r_iload_n (pc := 26) dX11_plansOf_26 rfl ?_
          refine rj_bipush (pc := 27) dX11_plansOf_27 (by decide +kernel) ?_
          refine rj_isub (pc := 29) dX11_plansOf_29 ?_
          refine r_callV1 (pc := 30) dX11_plansOf_30 qX11_plansOf kX11_270 vX11_plansOf (by exact isM.gx (by assumption)) rfl rfl (Nat.le_of_ble_eq_true rfl) (hpl _ _ _ _ _ _ ⟨by omega, by omega⟩ hc hB0) (fun v_30 h_30 q_30 => ?_)
          obtain ⟨rfl, hB_30, S_30⟩ := q_30
          refine r_goto (pc := 33) (tgt := 56) dX11_plansOf_33 (by decide) ?_
          refine r_aload_n (pc := 56) dX11_plansOf_56 rfl (by first | rfl | exact isRefV_rf _) ?_
          refine r_iload_n (pc := 57) dX11_plansOf_57 rfl ?_
          refine r_aload_n (pc := 58) dX11_plansOf_58 rfl (by first | rfl | exact isRefV_rf _) ?_
          refine r_iload_n (pc := 59) dX11_plansOf_59 rfl ?_
          refine r_callV1 (pc := 60) dX11_plansOf_60 qX11_stampOf kX11_258 vX11_stampOf (by exact isM.gx (by assumption)) rfl rfl (Nat.le_of_ble_eq_true rfl) ((m_stampOfI 0 hB_30 he2 he).deeper (by omega)) (fun v_60 h_60 q_60 => ?_)
          obtain ⟨rfl, rfl⟩ := q_60
          refine r_callV2 (pc := 63) dX11_plansOf_63 qX11_entryAhead kX11_261 vX11_entryAhead (by exact isM.gx (by assumption)) rfl rfl (Nat.le_of_ble_eq_true rfl) (by have y := m_entryAhead (G := G) (l := l) 0 hB_30 hM (N := (m 1).toNat) (C := (m 0).toNat) (by omega) (by omega) (by omega) (by omega) (a := s2) hs (st := stampI m e) rs; rw [show eaL m (m 1).toNat (m 0).toNat s2 (stampI m e) 160 0 (-5) = eaI m s2 (stampI m e) from rfl] at y; exact y.deeper (by omega)) (fun v_63 h_63 q_63 => ?_)
          obtain ⟨rfl, rfl⟩ := q_63
          refine r_istore_n (pc := 66) dX11_plansOf_66 (Nat.le_of_ble_eq_true rfl) ?_
          dsimp only [lsSt, List.set, mLs, mEnt]
          refine r_goto (pc := 67) (tgt := 15) dX11_plansOf_67 (by decide) ?_
          exact (ih _ _ k1 _ re.1 re.2 hR hB_30).mono (fun v h' q => ⟨q.1, q.2.1, S_30.trans q.2.2⟩)
