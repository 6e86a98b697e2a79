/-! ===== the reference: PLAN, spelling ===== -/
def eaI (m : Nat → Int) (s st : Int) : Int := eaV m (m 1).toNat (m 0).toNat s st
theorem eaI_r {m : Nat → Int} {s st : Int} : -5 ≤ eaI m s st ∧ eaI m s st ≤ 159 := eaV_r
def plLR (pl : Int → (Nat → Int) → Nat → (Nat → Int) → Nat → Prop) (m : Nat → Int) (s : Int) : Nat → Int → (Nat → Int) → Nat → (Nat → Int) → Nat → Prop
  | 0, e, p, k, p', k' => e < 0 ∧ p' = p ∧ k' = k
  | j + 1, e, p, k, p', k' => (e < 0 ∧ p' = p ∧ k' = k) ∨ ((0 ≤ e ∧ e < 100) ∧ k < 90 ∧ plLR pl m s j (eaI m s (stampI m e)) (updI p k e) (k + 1) p' k') ∨ (100 ≤ e ∧ ∃ p1 k1, pl (e - 100) p k p1 k1 ∧ plLR pl m s j (eaI m s (stampI m e)) p1 k1 p' k')
/-- what plansOf writes, from a row and how many stand there -/
def plR (m : Nat → Int) : Nat → Int → (Nat → Int) → Nat → (Nat → Int) → Nat → Prop
  | 0, _, _, _, _, _ => False
  | n + 1, s, p, k, p', k' => ∃ j, plLR (plR m n) m s j (eaI m s (m 6 + 1)) p k p' k'
set_option maxHeartbeats 4000000 in
set_option maxRecDepth 100000 in
theorem L_plansOf {G : mG} {l : Launch} {D : Nat} (hD : 4 ≤ D) {x s : Nat} {f4 f6 f8 f9 f10 f11 f12 f13 f14 f18 : Int} {m kp was pool tape pap rwd rw : Nat → Int} (hok : mOk m) {pl : Int → (Nat → Int) → Nat → (Nat → Int) → Nat → Prop} (hpl : ∀ (s2 : Int) (p : Nat → Int) (k : Nat) (p' : Nat → Int) (k' : Nat) (h : mH), InR s2 → pl s2 p k p' k' → isM h x (mFs x f4 f6 f8 f9 f10 f11 f12 f13 f14 (k : Int) f18 s) m kp was pool tape p pap rwd rw → RUNM G l D mX11_plansOf [.ref x, .int (J s2)] h (fun v h' => v = none ∧ isM h' x (mFs x f4 f6 f8 f9 f10 f11 f12 f13 f14 (k' : Int) f18 s) m kp was pool tape p' pap rwd rw ∧ Same (mBlk x) h h')) {s2 : Int} (hs : InR s2) {p' : Nat → Int} {k' : Nat} : ∀ (j : Nat) (e : Int) (p : Nat → Int) (k : Nat) (h : mH), -5 ≤ e → e ≤ 159 → plLR pl m s2 j e p k p' k' → isM h x (mFs x f4 f6 f8 f9 f10 f11 f12 f13 f14 (k : Int) f18 s) m kp was pool tape p pap rwd rw → RUN G l (D + 1) mX11_plansOf 15 [some (.ref x), some (.int (J s2)), some (.int (J e))] [] h (fun v h' => v = none ∧ isM h' x (mFs x f4 f6 f8 f9 f10 f11 f12 f13 f14 (k' : Int) f18 s) m kp was pool tape p' pap rwd rw ∧ Same (mBlk x) h h') := by
  obtain ⟨hM, k0, k1, k2, k3, k4, k5, k7⟩ := id hok
  intro j
  induction j with
  | zero =>
    intro e p k h he he2 hR hB
    obtain ⟨hlt, rfl, rfl⟩ := hR
    have hB0 := hB
    refine r_iload_n (pc := 15) dX11_plansOf_15 rfl ?_
    refine rj_if_lt (pc := 16) (tgt := 70) dX11_plansOf_16 (by decide) (by first | assumption | exact b01_r | exact bz_r | omega | (constructor <;> omega) | exact hM _ | exact hPo _ | exact hTa _ | exact hRo _) (fun c_16 => ?_) (fun c_16 => ?_)
    · refine r_return (pc := 70) dX11_plansOf_70 rfl ?_
      exact ⟨rfl, hB0, Same.refl⟩
    · exfalso; omega
  | succ j ih =>
    intro e p k h he he2 hR hB
    have hB0 := hB
    have rs := stampI_r hM e
    have re := eaI_r (m := m) (s := s2) (st := stampI m e)
    rcases hR with ⟨hlt, rfl, rfl⟩ | ⟨hlt, hk, hR⟩ | ⟨hlt, p1, k1, hc, hR⟩
    · refine r_iload_n (pc := 15) dX11_plansOf_15 rfl ?_
      refine rj_if_lt (pc := 16) (tgt := 70) dX11_plansOf_16 (by decide) (by first | assumption | exact b01_r | exact bz_r | omega | (constructor <;> omega) | exact hM _ | exact hPo _ | exact hTa _ | exact hRo _) (fun c_16 => ?_) (fun c_16 => ?_)
      · refine r_return (pc := 70) dX11_plansOf_70 rfl ?_
        exact ⟨rfl, hB0, Same.refl⟩
      · exfalso; omega
    · dsimp only [mFs] at hB
      refine r_iload_n (pc := 15) dX11_plansOf_15 rfl ?_
      refine rj_if_lt (pc := 16) (tgt := 70) dX11_plansOf_16 (by decide) (by first | assumption | exact b01_r | exact bz_r | omega | (constructor <;> omega) | exact hM _ | exact hPo _ | exact hTa _ | exact hRo _) (fun c_16 => ?_) (fun c_16 => ?_)
      · exfalso; omega
      · refine r_iload_n (pc := 19) dX11_plansOf_19 rfl ?_
        refine rj_bipush (pc := 20) dX11_plansOf_20 (by decide +kernel) ?_
        refine rj_icmp_lt (pc := 22) (tgt := 36) dX11_plansOf_22 (by decide) (by first | assumption | exact b01_r | exact bz_r | omega | (constructor <;> omega) | exact hM _ | exact hPo _ | exact hTa _ | exact hRo _) (by first | assumption | exact b01_r | exact bz_r | omega | (constructor <;> omega) | exact hM _ | exact hPo _ | exact hTa _ | exact hRo _) (fun c_22 => ?_) (fun c_22 => ?_)
        · refine r_aload_n (pc := 36) dX11_plansOf_36 rfl (by first | rfl | exact isRefV_rf _) ?_
          refine rm_getf (pc := 37) dX11_plansOf_37 fX11_30 (by assumption) rfl ?_
          refine r_aload_n (pc := 40) dX11_plansOf_40 rfl (by first | rfl | exact isRefV_rf _) ?_
          refine rm_getf (pc := 41) dX11_plansOf_41 fX11_273 (by assumption) rfl ?_
          refine r_iload_n (pc := 44) dX11_plansOf_44 rfl ?_
          first | refine rm_iast5 (pc := 45) (j := k) dX11_plansOf_45 (by assumption) (by first | assumption | exact b01_r | exact bz_r | omega | (constructor <;> omega) | exact hM _ | exact hPo _ | exact hTa _ | exact hRo _) (by first | assumption | exact b01_r | exact bz_r | omega | (constructor <;> omega) | exact hM _ | exact hPo _ | exact hTa _ | exact hRo _) (by first | assumption | exact b01_r | exact bz_r | omega | (constructor <;> omega) | exact hM _ | exact hPo _ | exact hTa _ | exact hRo _) (by omega) (fun h_45 hB_45 hS_45 => ?_)
          refine r_aload_n (pc := 46) dX11_plansOf_46 rfl (by first | rfl | exact isRefV_rf _) ?_
          refine r_dup (pc := 47) dX11_plansOf_47 (by first | rfl | (cases ‹Option Nat› <;> rfl)) ?_
          refine rm_getf (pc := 48) dX11_plansOf_48 fX11_273 (by assumption) rfl ?_
          refine rj_iconst (pc := 51) dX11_plansOf_51 ?_
          refine rj_iadd (pc := 52) dX11_plansOf_52 ?_
          refine rm_putf (pc := 53) dX11_plansOf_53 fX11_273 (by assumption) rfl rfl (Nat.le_of_ble_eq_true rfl) (fun h_53 hB_53 hS_53 => ?_)
          dsimp only [List.set, mFs] at hB_53
          have hB_53b : isM h_53 x (mFs x f4 f6 f8 f9 f10 f11 f12 f13 f14 ((k + 1 : Nat) : Int) f18 s) m kp was pool tape (updI p k e) pap rwd rw := by rw [show ((k + 1 : Nat) : Int) = (k : Int) + 1 by omega]; exact hB_53
          refine r_aload_n (pc := 56) dX11_plansOf_56 rfl (by first | rfl | exact isRefV_rf _) ?_
          refine r_iload_n (pc := 57) dX11_plansOf_57 rfl ?_
          refine r_aload_n (pc := 58) dX11_plansOf_58 rfl (by first | rfl | exact isRefV_rf _) ?_
          refine r_iload_n (pc := 59) dX11_plansOf_59 rfl ?_
          refine r_callV1 (pc := 60) dX11_plansOf_60 qX11_stampOf kX11_258 vX11_stampOf (by exact isM.gx (by assumption)) rfl rfl (Nat.le_of_ble_eq_true rfl) ((m_stampOfI 0 hB_53b he2 he).deeper (by omega)) (fun v_60 h_60 q_60 => ?_)
          obtain ⟨rfl, rfl⟩ := q_60
          refine r_callV2 (pc := 63) dX11_plansOf_63 qX11_entryAhead kX11_261 vX11_entryAhead (by exact isM.gx (by assumption)) rfl rfl (Nat.le_of_ble_eq_true rfl) (by have y := m_entryAhead (G := G) (l := l) 0 hB_53b hM (N := (m 1).toNat) (C := (m 0).toNat) (by omega) (by omega) (by omega) (by omega) (a := s2) hs (st := stampI m e) rs; rw [show eaL m (m 1).toNat (m 0).toNat s2 (stampI m e) 160 0 (-5) = eaI m s2 (stampI m e) from rfl] at y; exact y.deeper (by omega)) (fun v_63 h_63 q_63 => ?_)
          obtain ⟨rfl, rfl⟩ := q_63
          refine r_istore_n (pc := 66) dX11_plansOf_66 (Nat.le_of_ble_eq_true rfl) ?_
          dsimp only [lsSt, List.set, mLs, mEnt]
          refine r_goto (pc := 67) (tgt := 15) dX11_plansOf_67 (by decide) ?_
          exact (ih _ _ (k + 1) _ re.1 re.2 hR hB_53b).mono (fun v h' q => ⟨q.1, q.2.1, (hS_45.trans hS_53).trans q.2.2⟩)
        · exfalso; omega
    · dsimp only [mFs] at hB
      refine r_iload_n (pc := 15) dX11_plansOf_15 rfl ?_
      refine rj_if_lt (pc := 16) (tgt := 70) dX11_plansOf_16 (by decide) (by first | assumption | exact b01_r | exact bz_r | omega | (constructor <;> omega) | exact hM _ | exact hPo _ | exact hTa _ | exact hRo _) (fun c_16 => ?_) (fun c_16 => ?_)
      · exfalso; omega
      · refine r_iload_n (pc := 19) dX11_plansOf_19 rfl ?_
        refine rj_bipush (pc := 20) dX11_plansOf_20 (by decide +kernel) ?_
        refine rj_icmp_lt (pc := 22) (tgt := 36) dX11_plansOf_22 (by decide) (by first | assumption | exact b01_r | exact bz_r | omega | (constructor <;> omega) | exact hM _ | exact hPo _ | exact hTa _ | exact hRo _) (by first | assumption | exact b01_r | exact bz_r | omega | (constructor <;> omega) | exact hM _ | exact hPo _ | exact hTa _ | exact hRo _) (fun c_22 => ?_) (fun c_22 => ?_)
        · exfalso; omega
        · refine r_aload_n (pc := 25) dX11_plansOf_25 rfl (by first | rfl | exact isRefV_rf _) ?_
          refine r_iload_n (pc := 26) dX11_plansOf_26 rfl ?_
          refine rj_bipush (pc := 27) dX11_plansOf_27 (by decide +kernel) ?_
          refine rj_isub (pc := 29) dX11_plansOf_29 ?_
          refine r_callV1 (pc := 30) dX11_plansOf_30 qX11_plansOf kX11_270 vX11_plansOf (by exact isM.gx (by assumption)) rfl rfl (Nat.le_of_ble_eq_true rfl) (hpl _ _ _ _ _ _ ⟨by omega, by omega⟩ hc hB0) (fun v_30 h_30 q_30 => ?_)
          obtain ⟨rfl, hB_30, S_30⟩ := q_30
          refine r_goto (pc := 33) (tgt := 56) dX11_plansOf_33 (by decide) ?_
          refine r_aload_n (pc := 56) dX11_plansOf_56 rfl (by first | rfl | exact isRefV_rf _) ?_
          refine r_iload_n (pc := 57) dX11_plansOf_57 rfl ?_
          refine r_aload_n (pc := 58) dX11_plansOf_58 rfl (by first | rfl | exact isRefV_rf _) ?_
          refine r_iload_n (pc := 59) dX11_plansOf_59 rfl ?_
          refine r_callV1 (pc := 60) dX11_plansOf_60 qX11_stampOf kX11_258 vX11_stampOf (by exact isM.gx (by assumption)) rfl rfl (Nat.le_of_ble_eq_true rfl) ((m_stampOfI 0 hB_30 he2 he).deeper (by omega)) (fun v_60 h_60 q_60 => ?_)
          obtain ⟨rfl, rfl⟩ := q_60
          refine r_callV2 (pc := 63) dX11_plansOf_63 qX11_entryAhead kX11_261 vX11_entryAhead (by exact isM.gx (by assumption)) rfl rfl (Nat.le_of_ble_eq_true rfl) (by have y := m_entryAhead (G := G) (l := l) 0 hB_30 hM (N := (m 1).toNat) (C := (m 0).toNat) (by omega) (by omega) (by omega) (by omega) (a := s2) hs (st := stampI m e) rs; rw [show eaL m (m 1).toNat (m 0).toNat s2 (stampI m e) 160 0 (-5) = eaI m s2 (stampI m e) from rfl] at y; exact y.deeper (by omega)) (fun v_63 h_63 q_63 => ?_)
          obtain ⟨rfl, rfl⟩ := q_63
          refine r_istore_n (pc := 66) dX11_plansOf_66 (Nat.le_of_ble_eq_true rfl) ?_
          dsimp only [lsSt, List.set, mLs, mEnt]
          refine r_goto (pc := 67) (tgt := 15) dX11_plansOf_67 (by decide) ?_
          exact (ih _ _ k1 _ re.1 re.2 hR hB_30).mono (fun v h' q => ⟨q.1, q.2.1, S_30.trans q.2.2⟩)
set_option maxHeartbeats 4000000 in
set_option maxRecDepth 100000 in
theorem m_plansOf {G : mG} {l : Launch} {x s : Nat} {f4 f6 f8 f9 f10 f11 f12 f13 f14 f18 : Int} {m kp was pool tape pap rwd rw : Nat → Int} (hok : mOk m) (h6 : InR (m 6 + 1)) : ∀ (n : Nat) (s2 : Int) (p : Nat → Int) (k : Nat) (p' : Nat → Int) (k' : Nat) (h : mH), InR s2 → plR m n s2 p k p' k' → isM h x (mFs x f4 f6 f8 f9 f10 f11 f12 f13 f14 (k : Int) f18 s) m kp was pool tape p pap rwd rw → RUNM G l (5 + n) mX11_plansOf [.ref x, .int (J s2)] h (fun v h' => v = none ∧ isM h' x (mFs x f4 f6 f8 f9 f10 f11 f12 f13 f14 (k' : Int) f18 s) m kp was pool tape p' pap rwd rw ∧ Same (mBlk x) h h') := by
  obtain ⟨hM, k0, k1, k2, k3, k4, k5, k7⟩ := id hok
  intro n
  induction n with
  | zero => intro s2 p k p' k' h hs hR; exact absurd hR id
  | succ n ih =>
    intro s2 p k p' k' h hs hR hB
    obtain ⟨j, hR⟩ := hR
    have hB0 := hB
    have re := eaI_r (m := m) (s := s2) (st := m 6 + 1)
    rw [show 5 + (n + 1) = 5 + n + 1 by omega]
    dsimp only [mFs] at hB
    refine RUNM.of (by decide +kernel) (Nat.le_of_ble_eq_true rfl) ?_
    refine r_aload_n (pc := 0) dX11_plansOf_0 rfl (by first | rfl | exact isRefV_rf _) ?_
    refine r_iload_n (pc := 1) dX11_plansOf_1 rfl ?_
    refine r_aload_n (pc := 2) dX11_plansOf_2 rfl (by first | rfl | exact isRefV_rf _) ?_
    refine rm_getf (pc := 3) dX11_plansOf_3 fX11_11 (by assumption) rfl ?_
    refine rj_bipush (pc := 6) dX11_plansOf_6 (by decide +kernel) ?_
    refine rj_iald (pc := 8) (j := 6) dX11_plansOf_8 (by first | exact isM.g0 (by assumption) | exact isM.g3 (by assumption) | exact isM.g4 (by assumption) | exact isM.g8 (by assumption) | exact isM.g7 (by assumption) | exact isM.g6 (by assumption) | exact isM.g5 (by assumption) | exact isM.g1 (by assumption) | exact isM.g2 (by assumption)) (by first | assumption | exact b01_r | exact bz_r | omega | (constructor <;> omega) | exact hM _ | exact hPo _ | exact hTa _ | exact hRo _) (by first | assumption | exact b01_r | exact bz_r | omega | (constructor <;> omega) | exact hM _ | exact hPo _ | exact hTa _ | exact hRo _) (by first | assumption | exact b01_r | exact bz_r | omega | (constructor <;> omega) | exact hM _ | exact hPo _ | exact hTa _ | exact hRo _) (by omega) ?_
    refine rj_iconst (pc := 9) dX11_plansOf_9 ?_
    refine rj_iadd (pc := 10) dX11_plansOf_10 ?_
    refine r_callV2 (pc := 11) dX11_plansOf_11 qX11_entryAhead kX11_261 vX11_entryAhead (by exact isM.gx (by assumption)) rfl rfl (Nat.le_of_ble_eq_true rfl) (by have y := m_entryAhead (G := G) (l := l) 0 hB0 hM (N := (m 1).toNat) (C := (m 0).toNat) (by omega) (by omega) (by omega) (by omega) (a := s2) hs (st := m 6 + 1) h6; rw [show eaL m (m 1).toNat (m 0).toNat s2 (m 6 + 1) 160 0 (-5) = eaI m s2 (m 6 + 1) from rfl] at y; exact y.deeper (by omega)) (fun v_11 h_11 q_11 => ?_)
    obtain ⟨rfl, rfl⟩ := q_11
    refine r_istore_n (pc := 14) dX11_plansOf_14 (Nat.le_of_ble_eq_true rfl) ?_
    dsimp only [lsSt, List.set, mLs, mEnt]
    exact L_plansOf (D := 5 + n) (by omega) hok ih hs j _ p k _ re.1 re.2 hR hB0
def planV (p : Nat → Int) (k : Nat) (i : Int) : Int := if -1 ≤ i ∧ i ≤ (k : Int) - 1 then (if i < 0 then (k : Int) else p i.toNat) else -1
set_option maxHeartbeats 4000000 in
set_option maxRecDepth 100000 in
theorem m_plan {G : mG} {l : Launch} {x s : Nat} {f4 f6 f8 f9 f10 f11 f12 f13 f14 f16 f18 : Int} {m kp was pool tape pln pap rwd rw : Nat → Int} {h : mH} (hB : isM h x (mFs x f4 f6 f8 f9 f10 f11 f12 f13 f14 f16 f18 s) m kp was pool tape pln pap rwd rw) (hok : mOk m) (h6 : InR (m 6 + 1)) {a i : Int} (ha : InR a) (hi : InR i) {p' : Nat → Int} {k' : Nat} (hk : k' ≤ 90) (hR : (0 ≤ a ∧ a ≤ m 0 - 1) → plR m 61 a pln 0 p' k') : RUNM G l 70 mX11_plan [.ref x, .int (J a), .int (J i)] h (fun v h' => (¬ (0 ≤ a ∧ a ≤ m 0 - 1) ∧ v = some (.int (J (-1))) ∧ h' = h) ∨ ((0 ≤ a ∧ a ≤ m 0 - 1) ∧ v = some (.int (J (planV p' k' i))) ∧ isM h' x (mFs x f4 f6 f8 f9 f10 f11 f12 f13 f14 (k' : Int) f18 s) m kp was pool tape p' pap rwd rw ∧ Same (mBlk x) h h')) := by
  obtain ⟨hM, k0, k1, k2, k3, k4, k5, k7⟩ := id hok
  have hB0 := hB
  dsimp only [mFs] at hB
  refine RUNM.of (by decide +kernel) (Nat.le_of_ble_eq_true rfl) ?_
  refine r_aload_n (pc := 0) dX11_plan_0 rfl (by first | rfl | exact isRefV_rf _) ?_
  refine r_iload_n (pc := 1) dX11_plan_1 rfl ?_
  refine r_callV1 (pc := 2) dX11_plan_2 qX11_isScope kX11_50 vX11_isScope (by exact isM.gx (by assumption)) rfl rfl (Nat.le_of_ble_eq_true rfl) ((m_isScope 0 hB0 ha ⟨by omega, by omega⟩).deeper (by omega)) (fun v_2 h_2 q_2 => ?_)
  obtain ⟨rfl, rfl⟩ := q_2
  refine rj_if_ne (pc := 5) (tgt := 10) dX11_plan_5 (by decide) (by first | assumption | exact b01_r | exact bz_r | omega | (constructor <;> omega) | exact hM _ | exact hPo _ | exact hTa _ | exact hRo _) (fun c_5 => ?_) (fun c_5 => ?_)
  · try simp only [b01_0, bz_0, Classical.not_not] at c_5
    refine r_aload_n (pc := 10) dX11_plan_10 rfl (by first | rfl | exact isRefV_rf _) ?_
    refine rj_iconst (pc := 11) dX11_plan_11 ?_
    refine rm_putf (pc := 12) dX11_plan_12 fX11_273 (by assumption) rfl rfl (Nat.le_of_ble_eq_true rfl) (fun h_12 hB_12 hS_12 => ?_)
    dsimp only [List.set, mFs] at hB_12
    have hB_12b : isM h_12 x (mFs x f4 f6 f8 f9 f10 f11 f12 f13 f14 ((0 : Nat) : Int) f18 s) m kp was pool tape pln pap rwd rw := hB_12
    refine r_aload_n (pc := 15) dX11_plan_15 rfl (by first | rfl | exact isRefV_rf _) ?_
    refine r_iload_n (pc := 16) dX11_plan_16 rfl ?_
    refine r_callV1 (pc := 17) dX11_plan_17 qX11_plansOf kX11_270 vX11_plansOf (by exact isM.gx (by assumption)) rfl rfl (Nat.le_of_ble_eq_true rfl) (by have y := m_plansOf (G := G) (l := l) hok h6 61 a pln 0 p' k' _ ha (hR c_5) hB_12b; exact y.deeper (by omega)) (fun v_17 h_17 q_17 => ?_)
    obtain ⟨rfl, hB_17, S_17⟩ := q_17
    refine r_iload_n (pc := 20) dX11_plan_20 rfl ?_
    refine rj_iconst (pc := 21) dX11_plan_21 ?_
    refine r_aload_n (pc := 22) dX11_plan_22 rfl (by first | rfl | exact isRefV_rf _) ?_
    refine rm_getf (pc := 23) dX11_plan_23 fX11_273 (by assumption) rfl ?_
    refine rj_iconst (pc := 26) dX11_plan_26 ?_
    refine rj_isub (pc := 27) dX11_plan_27 ?_
    refine r_callS3 (pc := 28) dX11_plan_28 qX11_isIn kX11_46 sX11_isIn (Nat.le_of_ble_eq_true rfl) ((m_isIn 0 hi (by decide) ⟨by omega, by omega⟩).deeper (by omega)) (fun v_28 h_28 q_28 => ?_)
    obtain ⟨rfl, rfl⟩ := q_28
    refine rj_if_ne (pc := 31) (tgt := 38) dX11_plan_31 (by decide) (by first | assumption | exact b01_r | exact bz_r | omega | (constructor <;> omega) | exact hM _ | exact hPo _ | exact hTa _ | exact hRo _) (fun c_31 => ?_) (fun c_31 => ?_)
    · try simp only [b01_0, bz_0, Classical.not_not] at c_31
      refine r_iload_n (pc := 38) dX11_plan_38 rfl ?_
      refine rj_if_ge (pc := 39) (tgt := 49) dX11_plan_39 (by decide) (by first | assumption | exact b01_r | exact bz_r | omega | (constructor <;> omega) | exact hM _ | exact hPo _ | exact hTa _ | exact hRo _) (fun c_39 => ?_) (fun c_39 => ?_)
      · refine r_aload_n (pc := 49) dX11_plan_49 rfl (by first | rfl | exact isRefV_rf _) ?_
        refine rm_getf (pc := 50) dX11_plan_50 fX11_30 (by assumption) rfl ?_
        refine r_iload_n (pc := 53) dX11_plan_53 rfl ?_
        refine rj_iald (pc := 54) (j := i.toNat) dX11_plan_54 (by first | exact isM.g0 (by assumption) | exact isM.g3 (by assumption) | exact isM.g4 (by assumption) | exact isM.g8 (by assumption) | exact isM.g7 (by assumption) | exact isM.g6 (by assumption) | exact isM.g5 (by assumption) | exact isM.g1 (by assumption) | exact isM.g2 (by assumption)) (by first | assumption | exact b01_r | exact bz_r | omega | (constructor <;> omega) | exact hM _ | exact hPo _ | exact hTa _ | exact hRo _) (by first | assumption | exact b01_r | exact bz_r | omega | (constructor <;> omega) | exact hM _ | exact hPo _ | exact hTa _ | exact hRo _) (by first | assumption | exact b01_r | exact bz_r | omega | (constructor <;> omega) | exact hM _ | exact hPo _ | exact hTa _ | exact hRo _) (by omega) ?_
        refine r_ireturn (pc := 55) .int dX11_plan_55 rfl (by first | rfl | assumption) ?_
        first | exact Or.inr ⟨c_5, by unfold planV; rw [if_neg c_31], hB_17, hS_12.trans S_17⟩ | exact Or.inr ⟨c_5, by unfold planV; rw [if_pos c_31, if_pos (by omega)], hB_17, hS_12.trans S_17⟩ | exact Or.inr ⟨c_5, by unfold planV; rw [if_pos c_31, if_neg (by omega)], hB_17, hS_12.trans S_17⟩
      · refine r_aload_n (pc := 42) dX11_plan_42 rfl (by first | rfl | exact isRefV_rf _) ?_
        refine rm_getf (pc := 43) dX11_plan_43 fX11_273 (by assumption) rfl ?_
        refine r_goto (pc := 46) (tgt := 55) dX11_plan_46 (by decide) ?_
        refine r_ireturn (pc := 55) .int dX11_plan_55 rfl (by first | rfl | assumption) ?_
        first | exact Or.inr ⟨c_5, by unfold planV; rw [if_neg c_31], hB_17, hS_12.trans S_17⟩ | exact Or.inr ⟨c_5, by unfold planV; rw [if_pos c_31, if_pos (by omega)], hB_17, hS_12.trans S_17⟩ | exact Or.inr ⟨c_5, by unfold planV; rw [if_pos c_31, if_neg (by omega)], hB_17, hS_12.trans S_17⟩
    · try simp only [b01_0, bz_0, Classical.not_not] at c_31
      refine rj_iconst (pc := 34) dX11_plan_34 ?_
      refine r_goto (pc := 35) (tgt := 55) dX11_plan_35 (by decide) ?_
      refine r_ireturn (pc := 55) .int dX11_plan_55 rfl (by first | rfl | assumption) ?_
      first | exact Or.inr ⟨c_5, by unfold planV; rw [if_neg c_31], hB_17, hS_12.trans S_17⟩ | exact Or.inr ⟨c_5, by unfold planV; rw [if_pos c_31, if_pos (by omega)], hB_17, hS_12.trans S_17⟩ | exact Or.inr ⟨c_5, by unfold planV; rw [if_pos c_31, if_neg (by omega)], hB_17, hS_12.trans S_17⟩
  · try simp only [b01_0, bz_0, Classical.not_not] at c_5
    refine rj_iconst (pc := 8) dX11_plan_8 ?_
    refine r_ireturn (pc := 9) .int dX11_plan_9 rfl (by first | rfl | assumption) ?_
    exact Or.inl ⟨c_5, rfl, rfl⟩
abbrev dgP (c : Int) : Prop := 48 ≤ c ∧ c ≤ 57
def spS (pool : Nat → Int) (to : Nat) : Nat → Nat → Bool → (Nat → Int) → Nat → (Nat → Int) × Nat
  | 0, _, _, pap, w => (pap, w)
  | n + 1, p, b, pap, w => if pool p = 45 ∧ numAt pool 20 p = 0 then spS pool to n (p + 1) b pap w else if pool p = 48 ∧ b = false ∧ p + 1 < to ∧ dgP (pool (p + 1)) then spS pool to n (p + 1) false pap w else spS pool to n (p + 1) (decide (dgP (pool p))) (updI pap w (pool p)) (w + 1)
theorem spS_w {pool : Nat → Int} {to : Nat} : ∀ (n p : Nat) (b : Bool) (pap : Nat → Int) (w : Nat), (spS pool to n p b pap w).2 ≤ w + n
  | 0, _, _, _, w => Nat.le_refl _
  | n + 1, p, b, pap, w => by
    unfold spS
    split
    · have := spS_w (pool := pool) (to := to) n (p + 1) b pap w; omega
    · split
      · have := spS_w (pool := pool) (to := to) n (p + 1) false pap w; omega
      · have := spS_w (pool := pool) (to := to) n (p + 1) (decide (dgP (pool p))) (updI pap w (pool p)) (w + 1); omega
def minOk (pool : Nat → Int) (fr to : Nat) : Prop := ∀ p, fr ≤ p → p < to → pool p = 45 → stopsBy pool 20 (p + 1) ∧ InR (numAt pool 20 p)
set_option maxHeartbeats 4000000 in
set_option maxRecDepth 100000 in
theorem L_spells {G : mG} {l : Launch} (d : Nat) {x s : Nat} {f4 f6 f8 f9 f10 f11 f12 f13 f14 f16 : Int} {m kp was pool tape pln rwd rw : Nat → Int} (hPo : ∀ q, InR (pool q)) {fr to : Nat} (hto : to ≤ 12300) (hmin : minOk pool fr to) : ∀ (n p : Nat) (b : Bool) (pap : Nat → Int) (w : Nat) (h : mH) (v5 v6 v7 : Option Value), p + n = to → fr ≤ p → w + n ≤ 120 → isM h x (mFs x f4 f6 f8 f9 f10 f11 f12 f13 f14 f16 (w : Int) s) m kp was pool tape pln pap rwd rw → RUN G l (d + 2) mX11_spells 10 [some (.ref x), some (.int (J (fr : Int))), some (.int (J (to : Int))), some (.int (J (bz b))), some (.int (J (p : Int))), v5, v6, v7] [] h (fun v h' => v = none ∧ isM h' x (mFs x f4 f6 f8 f9 f10 f11 f12 f13 f14 f16 ((spS pool to n p b pap w).2 : Int) s) m kp was pool tape pln (spS pool to n p b pap w).1 rwd rw ∧ Same (mBlk x) h h') := by
  intro n
  induction n with
  | zero =>
    intro p b pap w h v5 v6 v7 hp hf hw hB
    have hB0 := hB
    refine r_iload (pc := 10) dX11_spells_10 rfl ?_
    refine r_iload_n (pc := 12) dX11_spells_12 rfl ?_
    refine rj_icmp_ge (pc := 13) (tgt := 162) dX11_spells_13 (by decide) (by first | assumption | exact b01_r | exact bz_r | omega | (constructor <;> omega) | exact hM _ | exact hPo _ | exact hTa _ | exact hRo _) (by first | assumption | exact b01_r | exact bz_r | omega | (constructor <;> omega) | exact hM _ | exact hPo _ | exact hTa _ | exact hRo _) (fun c_13 => ?_) (fun c_13 => ?_)
    · refine r_return (pc := 162) dX11_spells_162 rfl ?_
      exact ⟨rfl, hB0, Same.refl⟩
    · exfalso; omega
  | succ n ih =>
    intro p b pap w h v5 v6 v7 hp hf hw hB
    have hB0 := hB
    have rp := hPo p
    have rp1 := hPo (p + 1)
    have rt : InR (to : Int) := ⟨by omega, by omega⟩
    dsimp only [mFs] at hB
    refine r_iload (pc := 10) dX11_spells_10 rfl ?_
    refine r_iload_n (pc := 12) dX11_spells_12 rfl ?_
    refine rj_icmp_ge (pc := 13) (tgt := 162) dX11_spells_13 (by decide) (by first | assumption | exact b01_r | exact bz_r | omega | (constructor <;> omega) | exact hM _ | exact hPo _ | exact hTa _ | exact hRo _) (by first | assumption | exact b01_r | exact bz_r | omega | (constructor <;> omega) | exact hM _ | exact hPo _ | exact hTa _ | exact hRo _) (fun c_13 => ?_) (fun c_13 => ?_)
    · exfalso; omega
    · refine r_aload_n (pc := 16) dX11_spells_16 rfl (by first | rfl | exact isRefV_rf _) ?_
      refine rm_getf (pc := 17) dX11_spells_17 fX11_21 (by assumption) rfl ?_
      refine r_iload (pc := 20) dX11_spells_20 rfl ?_
      refine rj_iald (pc := 22) (j := p) dX11_spells_22 (by first | exact isM.g0 (by assumption) | exact isM.g3 (by assumption) | exact isM.g4 (by assumption) | exact isM.g8 (by assumption) | exact isM.g7 (by assumption) | exact isM.g6 (by assumption) | exact isM.g5 (by assumption) | exact isM.g1 (by assumption) | exact isM.g2 (by assumption)) (by first | assumption | exact b01_r | exact bz_r | omega | (constructor <;> omega) | exact hM _ | exact hPo _ | exact hTa _ | exact hRo _) (by first | assumption | exact b01_r | exact bz_r | omega | (constructor <;> omega) | exact hM _ | exact hPo _ | exact hTa _ | exact hRo _) (by first | assumption | exact b01_r | exact bz_r | omega | (constructor <;> omega) | exact hM _ | exact hPo _ | exact hTa _ | exact hRo _) (by omega) ?_
      refine r_istore (pc := 23) dX11_spells_23 (Nat.le_of_ble_eq_true rfl) ?_
      dsimp only [lsSt, List.set, mLs, mEnt]
      refine r_iload (pc := 25) dX11_spells_25 rfl ?_
      refine rj_bipush (pc := 27) dX11_spells_27 (by decide +kernel) ?_
      refine rj_bipush (pc := 29) dX11_spells_29 (by decide +kernel) ?_
      refine r_callS3 (pc := 31) dX11_spells_31 qX11_isIn kX11_46 sX11_isIn (Nat.le_of_ble_eq_true rfl) ((m_isIn 0 rp (by decide) (by decide)).deeper (by omega)) (fun v_31 h_31 q_31 => ?_)
      obtain ⟨rfl, rfl⟩ := q_31
      refine r_istore (pc := 34) dX11_spells_34 (Nat.le_of_ble_eq_true rfl) ?_
      dsimp only [lsSt, List.set, mLs, mEnt]
      refine r_iload (pc := 36) dX11_spells_36 rfl ?_
      refine rj_bipush (pc := 38) dX11_spells_38 (by decide +kernel) ?_
      refine rj_icmp_ne (pc := 40) (tgt := 55) dX11_spells_40 (by decide) (by first | assumption | exact b01_r | exact bz_r | omega | (constructor <;> omega) | exact hM _ | exact hPo _ | exact hTa _ | exact hRo _) (by first | assumption | exact b01_r | exact bz_r | omega | (constructor <;> omega) | exact hM _ | exact hPo _ | exact hTa _ | exact hRo _) (fun c_40 => ?_) (fun c_40 => ?_)
      · refine r_iload (pc := 55) dX11_spells_55 rfl ?_
        refine rj_bipush (pc := 57) dX11_spells_57 (by decide +kernel) ?_
        refine rj_icmp_ne (pc := 59) (tgt := 97) dX11_spells_59 (by decide) (by first | assumption | exact b01_r | exact bz_r | omega | (constructor <;> omega) | exact hM _ | exact hPo _ | exact hTa _ | exact hRo _) (by first | assumption | exact b01_r | exact bz_r | omega | (constructor <;> omega) | exact hM _ | exact hPo _ | exact hTa _ | exact hRo _) (fun c_59 => ?_) (fun c_59 => ?_)
        · refine rj_iconst (pc := 97) dX11_spells_97 ?_
          refine r_istore (pc := 98) dX11_spells_98 (Nat.le_of_ble_eq_true rfl) ?_
          dsimp only [lsSt, List.set, mLs, mEnt]
          refine r_iload (pc := 100) dX11_spells_100 rfl ?_
          refine rj_if_eq (pc := 102) (tgt := 125) dX11_spells_102 (by decide) (by first | assumption | exact b01_r | exact bz_r | omega | (constructor <;> omega) | exact hM _ | exact hPo _ | exact hTa _ | exact hRo _) (fun c_102 => ?_) (fun c_102 => ?_)
          · try simp only [b01_0, bz_0, Classical.not_not] at c_102
            refine rj_iconst (pc := 125) dX11_spells_125 ?_
            refine r_istore_n (pc := 126) dX11_spells_126 (Nat.le_of_ble_eq_true rfl) ?_
            dsimp only [lsSt, List.set, mLs, mEnt]
            refine r_iload (pc := 127) dX11_spells_127 rfl ?_
            refine rj_if_eq (pc := 129) (tgt := 135) dX11_spells_129 (by decide) (by first | assumption | exact b01_r | exact bz_r | omega | (constructor <;> omega) | exact hM _ | exact hPo _ | exact hTa _ | exact hRo _) (fun c_129 => ?_) (fun c_129 => ?_)
            · try simp only [b01_0, bz_0, Classical.not_not] at c_129
              refine r_aload_n (pc := 135) dX11_spells_135 rfl (by first | rfl | exact isRefV_rf _) ?_
              refine rm_getf (pc := 136) dX11_spells_136 fX11_33 (by assumption) rfl ?_
              refine r_aload_n (pc := 139) dX11_spells_139 rfl (by first | rfl | exact isRefV_rf _) ?_
              refine rm_getf (pc := 140) dX11_spells_140 fX11_298 (by assumption) rfl ?_
              refine r_iload (pc := 143) dX11_spells_143 rfl ?_
              first | refine rm_iast6 (pc := 145) (j := w) dX11_spells_145 (by assumption) (by first | assumption | exact b01_r | exact bz_r | omega | (constructor <;> omega) | exact hM _ | exact hPo _ | exact hTa _ | exact hRo _) (by first | assumption | exact b01_r | exact bz_r | omega | (constructor <;> omega) | exact hM _ | exact hPo _ | exact hTa _ | exact hRo _) (by first | assumption | exact b01_r | exact bz_r | omega | (constructor <;> omega) | exact hM _ | exact hPo _ | exact hTa _ | exact hRo _) (by omega) (fun h_145 hB_145 hS_145 => ?_)
              refine r_aload_n (pc := 146) dX11_spells_146 rfl (by first | rfl | exact isRefV_rf _) ?_
              refine r_dup (pc := 147) dX11_spells_147 (by first | rfl | (cases ‹Option Nat› <;> rfl)) ?_
              refine rm_getf (pc := 148) dX11_spells_148 fX11_298 (by assumption) rfl ?_
              refine rj_iconst (pc := 151) dX11_spells_151 ?_
              refine rj_iadd (pc := 152) dX11_spells_152 ?_
              refine rm_putf (pc := 153) dX11_spells_153 fX11_298 (by assumption) rfl rfl (Nat.le_of_ble_eq_true rfl) (fun h_153 hB_153 hS_153 => ?_)
              dsimp only [List.set, mFs] at hB_153
              refine rj_iinc (pc := 156) dX11_spells_156 (Nat.le_of_ble_eq_true rfl) rfl ?_
              dsimp only [lsSt, List.set, mLs, mEnt]
              refine r_goto (pc := 159) (tgt := 10) dX11_spells_159 (by decide) ?_
              rw [show ((p : Int) + 1) = ((p + 1 : Nat) : Int) by omega]
              rw [spS, if_neg (fun g => c_40 g.1), if_neg (fun g => c_59 g.1)]
              rw [show decide (dgP (pool p)) = false from decide_eq_false c_102]
              have y := ih (p + 1) false (updI pap w (pool p)) (w + 1) _ (some (.int (J (pool p)))) (some (.int (J (b01 (48 ≤ pool p ∧ pool p ≤ 57))))) (some (.int (J 0))) (by omega) (by omega) (by omega) (by rw [show ((w + 1 : Nat) : Int) = (w : Int) + 1 by omega]; exact hB_153)
              rw [show bz false = 0 from rfl] at y
              exact y.mono (fun v h' q => ⟨q.1, q.2.1, (hS_145.trans hS_153).trans q.2.2⟩)
            · try simp only [b01_0, bz_0, Classical.not_not] at c_129
              all_goals (first | exact absurd trivial ‹¬ True› | exact absurd c_59 c_113 | exact absurd c_106 c_63 | (exfalso; omega))
          · try simp only [b01_0, bz_0, Classical.not_not] at c_102
            refine r_iload_n (pc := 105) dX11_spells_105 rfl ?_
            refine rj_if_ne (pc := 106) (tgt := 121) dX11_spells_106 (by decide) (by first | assumption | exact b01_r | exact bz_r | omega | (constructor <;> omega) | exact hM _ | exact hPo _ | exact hTa _ | exact hRo _) (fun c_106 => ?_) (fun c_106 => ?_)
            · try simp only [b01_0, bz_0, Classical.not_not] at c_106
              refine rj_iconst (pc := 121) dX11_spells_121 ?_
              refine r_goto (pc := 122) (tgt := 126) dX11_spells_122 (by decide) ?_
              refine r_istore_n (pc := 126) dX11_spells_126 (Nat.le_of_ble_eq_true rfl) ?_
              dsimp only [lsSt, List.set, mLs, mEnt]
              refine r_iload (pc := 127) dX11_spells_127 rfl ?_
              refine rj_if_eq (pc := 129) (tgt := 135) dX11_spells_129 (by decide) (by first | assumption | exact b01_r | exact bz_r | omega | (constructor <;> omega) | exact hM _ | exact hPo _ | exact hTa _ | exact hRo _) (fun c_129 => ?_) (fun c_129 => ?_)
              · try simp only [b01_0, bz_0, Classical.not_not] at c_129
                refine r_aload_n (pc := 135) dX11_spells_135 rfl (by first | rfl | exact isRefV_rf _) ?_
                refine rm_getf (pc := 136) dX11_spells_136 fX11_33 (by assumption) rfl ?_
                refine r_aload_n (pc := 139) dX11_spells_139 rfl (by first | rfl | exact isRefV_rf _) ?_
                refine rm_getf (pc := 140) dX11_spells_140 fX11_298 (by assumption) rfl ?_
                refine r_iload (pc := 143) dX11_spells_143 rfl ?_
                first | refine rm_iast6 (pc := 145) (j := w) dX11_spells_145 (by assumption) (by first | assumption | exact b01_r | exact bz_r | omega | (constructor <;> omega) | exact hM _ | exact hPo _ | exact hTa _ | exact hRo _) (by first | assumption | exact b01_r | exact bz_r | omega | (constructor <;> omega) | exact hM _ | exact hPo _ | exact hTa _ | exact hRo _) (by first | assumption | exact b01_r | exact bz_r | omega | (constructor <;> omega) | exact hM _ | exact hPo _ | exact hTa _ | exact hRo _) (by omega) (fun h_145 hB_145 hS_145 => ?_)
                refine r_aload_n (pc := 146) dX11_spells_146 rfl (by first | rfl | exact isRefV_rf _) ?_
                refine r_dup (pc := 147) dX11_spells_147 (by first | rfl | (cases ‹Option Nat› <;> rfl)) ?_
                refine rm_getf (pc := 148) dX11_spells_148 fX11_298 (by assumption) rfl ?_
                refine rj_iconst (pc := 151) dX11_spells_151 ?_
                refine rj_iadd (pc := 152) dX11_spells_152 ?_
                refine rm_putf (pc := 153) dX11_spells_153 fX11_298 (by assumption) rfl rfl (Nat.le_of_ble_eq_true rfl) (fun h_153 hB_153 hS_153 => ?_)
                dsimp only [List.set, mFs] at hB_153
                refine rj_iinc (pc := 156) dX11_spells_156 (Nat.le_of_ble_eq_true rfl) rfl ?_
                dsimp only [lsSt, List.set, mLs, mEnt]
                refine r_goto (pc := 159) (tgt := 10) dX11_spells_159 (by decide) ?_
                rw [show ((p : Int) + 1) = ((p + 1 : Nat) : Int) by omega]
                rw [spS, if_neg (fun g => c_40 g.1), if_neg (fun g => c_59 g.1)]
                rw [show decide (dgP (pool p)) = true from decide_eq_true c_102]
                have y := ih (p + 1) true (updI pap w (pool p)) (w + 1) _ (some (.int (J (pool p)))) (some (.int (J (b01 (48 ≤ pool p ∧ pool p ≤ 57))))) (some (.int (J 0))) (by omega) (by omega) (by omega) (by rw [show ((w + 1 : Nat) : Int) = (w : Int) + 1 by omega]; exact hB_153)
                rw [show bz true = 1 from rfl] at y
                exact y.mono (fun v h' q => ⟨q.1, q.2.1, (hS_145.trans hS_153).trans q.2.2⟩)
              · try simp only [b01_0, bz_0, Classical.not_not] at c_129
                all_goals (first | exact absurd trivial ‹¬ True› | exact absurd c_59 c_113 | exact absurd c_106 c_63 | (exfalso; omega))
            · try simp only [b01_0, bz_0, Classical.not_not] at c_106
              refine r_iload (pc := 109) dX11_spells_109 rfl ?_
              refine rj_bipush (pc := 111) dX11_spells_111 (by decide +kernel) ?_
              refine rj_icmp_ne (pc := 113) (tgt := 121) dX11_spells_113 (by decide) (by first | assumption | exact b01_r | exact bz_r | omega | (constructor <;> omega) | exact hM _ | exact hPo _ | exact hTa _ | exact hRo _) (by first | assumption | exact b01_r | exact bz_r | omega | (constructor <;> omega) | exact hM _ | exact hPo _ | exact hTa _ | exact hRo _) (fun c_113 => ?_) (fun c_113 => ?_)
              · refine rj_iconst (pc := 121) dX11_spells_121 ?_
                refine r_goto (pc := 122) (tgt := 126) dX11_spells_122 (by decide) ?_
                refine r_istore_n (pc := 126) dX11_spells_126 (Nat.le_of_ble_eq_true rfl) ?_
                dsimp only [lsSt, List.set, mLs, mEnt]
                refine r_iload (pc := 127) dX11_spells_127 rfl ?_
                refine rj_if_eq (pc := 129) (tgt := 135) dX11_spells_129 (by decide) (by first | assumption | exact b01_r | exact bz_r | omega | (constructor <;> omega) | exact hM _ | exact hPo _ | exact hTa _ | exact hRo _) (fun c_129 => ?_) (fun c_129 => ?_)
                · try simp only [b01_0, bz_0, Classical.not_not] at c_129
                  refine r_aload_n (pc := 135) dX11_spells_135 rfl (by first | rfl | exact isRefV_rf _) ?_
                  refine rm_getf (pc := 136) dX11_spells_136 fX11_33 (by assumption) rfl ?_
                  refine r_aload_n (pc := 139) dX11_spells_139 rfl (by first | rfl | exact isRefV_rf _) ?_
                  refine rm_getf (pc := 140) dX11_spells_140 fX11_298 (by assumption) rfl ?_
                  refine r_iload (pc := 143) dX11_spells_143 rfl ?_
                  first | refine rm_iast6 (pc := 145) (j := w) dX11_spells_145 (by assumption) (by first | assumption | exact b01_r | exact bz_r | omega | (constructor <;> omega) | exact hM _ | exact hPo _ | exact hTa _ | exact hRo _) (by first | assumption | exact b01_r | exact bz_r | omega | (constructor <;> omega) | exact hM _ | exact hPo _ | exact hTa _ | exact hRo _) (by first | assumption | exact b01_r | exact bz_r | omega | (constructor <;> omega) | exact hM _ | exact hPo _ | exact hTa _ | exact hRo _) (by omega) (fun h_145 hB_145 hS_145 => ?_)
                  refine r_aload_n (pc := 146) dX11_spells_146 rfl (by first | rfl | exact isRefV_rf _) ?_
                  refine r_dup (pc := 147) dX11_spells_147 (by first | rfl | (cases ‹Option Nat› <;> rfl)) ?_
                  refine rm_getf (pc := 148) dX11_spells_148 fX11_298 (by assumption) rfl ?_
                  refine rj_iconst (pc := 151) dX11_spells_151 ?_
                  refine rj_iadd (pc := 152) dX11_spells_152 ?_
                  refine rm_putf (pc := 153) dX11_spells_153 fX11_298 (by assumption) rfl rfl (Nat.le_of_ble_eq_true rfl) (fun h_153 hB_153 hS_153 => ?_)
                  dsimp only [List.set, mFs] at hB_153
                  refine rj_iinc (pc := 156) dX11_spells_156 (Nat.le_of_ble_eq_true rfl) rfl ?_
                  dsimp only [lsSt, List.set, mLs, mEnt]
                  refine r_goto (pc := 159) (tgt := 10) dX11_spells_159 (by decide) ?_
                  rw [show ((p : Int) + 1) = ((p + 1 : Nat) : Int) by omega]
                  rw [spS, if_neg (fun g => c_40 g.1), if_neg (fun g => c_59 g.1)]
                  rw [show decide (dgP (pool p)) = true from decide_eq_true c_102]
                  have y := ih (p + 1) true (updI pap w (pool p)) (w + 1) _ (some (.int (J (pool p)))) (some (.int (J (b01 (48 ≤ pool p ∧ pool p ≤ 57))))) (some (.int (J 0))) (by omega) (by omega) (by omega) (by rw [show ((w + 1 : Nat) : Int) = (w : Int) + 1 by omega]; exact hB_153)
                  rw [show bz true = 1 from rfl] at y
                  exact y.mono (fun v h' q => ⟨q.1, q.2.1, (hS_145.trans hS_153).trans q.2.2⟩)
                · try simp only [b01_0, bz_0, Classical.not_not] at c_129
                  all_goals (first | exact absurd trivial ‹¬ True› | exact absurd c_59 c_113 | exact absurd c_106 c_63 | (exfalso; omega))
              · refine r_iload (pc := 116) dX11_spells_116 rfl ?_
                refine rj_if_ne (pc := 118) (tgt := 125) dX11_spells_118 (by decide) (by first | assumption | exact b01_r | exact bz_r | omega | (constructor <;> omega) | exact hM _ | exact hPo _ | exact hTa _ | exact hRo _) (fun c_118 => ?_) (fun c_118 => ?_)
                · try simp only [b01_0, bz_0, Classical.not_not] at c_118
                  all_goals (first | exact absurd trivial ‹¬ True› | exact absurd c_59 c_113 | exact absurd c_106 c_63 | (exfalso; omega))
                · try simp only [b01_0, bz_0, Classical.not_not] at c_118
                  refine rj_iconst (pc := 121) dX11_spells_121 ?_
                  refine r_goto (pc := 122) (tgt := 126) dX11_spells_122 (by decide) ?_
                  refine r_istore_n (pc := 126) dX11_spells_126 (Nat.le_of_ble_eq_true rfl) ?_
                  dsimp only [lsSt, List.set, mLs, mEnt]
                  refine r_iload (pc := 127) dX11_spells_127 rfl ?_
                  refine rj_if_eq (pc := 129) (tgt := 135) dX11_spells_129 (by decide) (by first | assumption | exact b01_r | exact bz_r | omega | (constructor <;> omega) | exact hM _ | exact hPo _ | exact hTa _ | exact hRo _) (fun c_129 => ?_) (fun c_129 => ?_)
                  · try simp only [b01_0, bz_0, Classical.not_not] at c_129
                    refine r_aload_n (pc := 135) dX11_spells_135 rfl (by first | rfl | exact isRefV_rf _) ?_
                    refine rm_getf (pc := 136) dX11_spells_136 fX11_33 (by assumption) rfl ?_
                    refine r_aload_n (pc := 139) dX11_spells_139 rfl (by first | rfl | exact isRefV_rf _) ?_
                    refine rm_getf (pc := 140) dX11_spells_140 fX11_298 (by assumption) rfl ?_
                    refine r_iload (pc := 143) dX11_spells_143 rfl ?_
                    first | refine rm_iast6 (pc := 145) (j := w) dX11_spells_145 (by assumption) (by first | assumption | exact b01_r | exact bz_r | omega | (constructor <;> omega) | exact hM _ | exact hPo _ | exact hTa _ | exact hRo _) (by first | assumption | exact b01_r | exact bz_r | omega | (constructor <;> omega) | exact hM _ | exact hPo _ | exact hTa _ | exact hRo _) (by first | assumption | exact b01_r | exact bz_r | omega | (constructor <;> omega) | exact hM _ | exact hPo _ | exact hTa _ | exact hRo _) (by omega) (fun h_145 hB_145 hS_145 => ?_)
                    refine r_aload_n (pc := 146) dX11_spells_146 rfl (by first | rfl | exact isRefV_rf _) ?_
                    refine r_dup (pc := 147) dX11_spells_147 (by first | rfl | (cases ‹Option Nat› <;> rfl)) ?_
                    refine rm_getf (pc := 148) dX11_spells_148 fX11_298 (by assumption) rfl ?_
                    refine rj_iconst (pc := 151) dX11_spells_151 ?_
                    refine rj_iadd (pc := 152) dX11_spells_152 ?_
                    refine rm_putf (pc := 153) dX11_spells_153 fX11_298 (by assumption) rfl rfl (Nat.le_of_ble_eq_true rfl) (fun h_153 hB_153 hS_153 => ?_)
                    dsimp only [List.set, mFs] at hB_153
                    refine rj_iinc (pc := 156) dX11_spells_156 (Nat.le_of_ble_eq_true rfl) rfl ?_
                    dsimp only [lsSt, List.set, mLs, mEnt]
                    refine r_goto (pc := 159) (tgt := 10) dX11_spells_159 (by decide) ?_
                    rw [show ((p : Int) + 1) = ((p + 1 : Nat) : Int) by omega]
                    rw [spS, if_neg (fun g => c_40 g.1), if_neg (fun g => c_59 g.1)]
                    rw [show decide (dgP (pool p)) = true from decide_eq_true c_102]
                    have y := ih (p + 1) true (updI pap w (pool p)) (w + 1) _ (some (.int (J (pool p)))) (some (.int (J (b01 (48 ≤ pool p ∧ pool p ≤ 57))))) (some (.int (J 0))) (by omega) (by omega) (by omega) (by rw [show ((w + 1 : Nat) : Int) = (w : Int) + 1 by omega]; exact hB_153)
                    rw [show bz true = 1 from rfl] at y
                    exact y.mono (fun v h' q => ⟨q.1, q.2.1, (hS_145.trans hS_153).trans q.2.2⟩)
                  · try simp only [b01_0, bz_0, Classical.not_not] at c_129
                    all_goals (first | exact absurd trivial ‹¬ True› | exact absurd c_59 c_113 | exact absurd c_106 c_63 | (exfalso; omega))
        · refine r_iload_n (pc := 62) dX11_spells_62 rfl ?_
          refine rj_if_ne (pc := 63) (tgt := 97) dX11_spells_63 (by decide) (by first | assumption | exact b01_r | exact bz_r | omega | (constructor <;> omega) | exact hM _ | exact hPo _ | exact hTa _ | exact hRo _) (fun c_63 => ?_) (fun c_63 => ?_)
          · try simp only [b01_0, bz_0, Classical.not_not] at c_63
            refine rj_iconst (pc := 97) dX11_spells_97 ?_
            refine r_istore (pc := 98) dX11_spells_98 (Nat.le_of_ble_eq_true rfl) ?_
            dsimp only [lsSt, List.set, mLs, mEnt]
            refine r_iload (pc := 100) dX11_spells_100 rfl ?_
            refine rj_if_eq (pc := 102) (tgt := 125) dX11_spells_102 (by decide) (by first | assumption | exact b01_r | exact bz_r | omega | (constructor <;> omega) | exact hM _ | exact hPo _ | exact hTa _ | exact hRo _) (fun c_102 => ?_) (fun c_102 => ?_)
            · try simp only [b01_0, bz_0, Classical.not_not] at c_102
              refine rj_iconst (pc := 125) dX11_spells_125 ?_
              refine r_istore_n (pc := 126) dX11_spells_126 (Nat.le_of_ble_eq_true rfl) ?_
              dsimp only [lsSt, List.set, mLs, mEnt]
              refine r_iload (pc := 127) dX11_spells_127 rfl ?_
              refine rj_if_eq (pc := 129) (tgt := 135) dX11_spells_129 (by decide) (by first | assumption | exact b01_r | exact bz_r | omega | (constructor <;> omega) | exact hM _ | exact hPo _ | exact hTa _ | exact hRo _) (fun c_129 => ?_) (fun c_129 => ?_)
              · try simp only [b01_0, bz_0, Classical.not_not] at c_129
                refine r_aload_n (pc := 135) dX11_spells_135 rfl (by first | rfl | exact isRefV_rf _) ?_
                refine rm_getf (pc := 136) dX11_spells_136 fX11_33 (by assumption) rfl ?_
                refine r_aload_n (pc := 139) dX11_spells_139 rfl (by first | rfl | exact isRefV_rf _) ?_
                refine rm_getf (pc := 140) dX11_spells_140 fX11_298 (by assumption) rfl ?_
                refine r_iload (pc := 143) dX11_spells_143 rfl ?_
                first | refine rm_iast6 (pc := 145) (j := w) dX11_spells_145 (by assumption) (by first | assumption | exact b01_r | exact bz_r | omega | (constructor <;> omega) | exact hM _ | exact hPo _ | exact hTa _ | exact hRo _) (by first | assumption | exact b01_r | exact bz_r | omega | (constructor <;> omega) | exact hM _ | exact hPo _ | exact hTa _ | exact hRo _) (by first | assumption | exact b01_r | exact bz_r | omega | (constructor <;> omega) | exact hM _ | exact hPo _ | exact hTa _ | exact hRo _) (by omega) (fun h_145 hB_145 hS_145 => ?_)
                refine r_aload_n (pc := 146) dX11_spells_146 rfl (by first | rfl | exact isRefV_rf _) ?_
                refine r_dup (pc := 147) dX11_spells_147 (by first | rfl | (cases ‹Option Nat› <;> rfl)) ?_
                refine rm_getf (pc := 148) dX11_spells_148 fX11_298 (by assumption) rfl ?_
                refine rj_iconst (pc := 151) dX11_spells_151 ?_
                refine rj_iadd (pc := 152) dX11_spells_152 ?_
                refine rm_putf (pc := 153) dX11_spells_153 fX11_298 (by assumption) rfl rfl (Nat.le_of_ble_eq_true rfl) (fun h_153 hB_153 hS_153 => ?_)
                dsimp only [List.set, mFs] at hB_153
                refine rj_iinc (pc := 156) dX11_spells_156 (Nat.le_of_ble_eq_true rfl) rfl ?_
                dsimp only [lsSt, List.set, mLs, mEnt]
                refine r_goto (pc := 159) (tgt := 10) dX11_spells_159 (by decide) ?_
                rw [show ((p : Int) + 1) = ((p + 1 : Nat) : Int) by omega]
                rw [spS, if_neg (fun g => c_40 g.1), if_neg (fun g => absurd g.2.1 (by simpa using c_63))]
                rw [show decide (dgP (pool p)) = false from decide_eq_false c_102]
                have y := ih (p + 1) false (updI pap w (pool p)) (w + 1) _ (some (.int (J (pool p)))) (some (.int (J (b01 (48 ≤ pool p ∧ pool p ≤ 57))))) (some (.int (J 0))) (by omega) (by omega) (by omega) (by rw [show ((w + 1 : Nat) : Int) = (w : Int) + 1 by omega]; exact hB_153)
                rw [show bz false = 0 from rfl] at y
                exact y.mono (fun v h' q => ⟨q.1, q.2.1, (hS_145.trans hS_153).trans q.2.2⟩)
              · try simp only [b01_0, bz_0, Classical.not_not] at c_129
                all_goals (first | exact absurd trivial ‹¬ True› | exact absurd c_59 c_113 | exact absurd c_106 c_63 | (exfalso; omega))
            · try simp only [b01_0, bz_0, Classical.not_not] at c_102
              refine r_iload_n (pc := 105) dX11_spells_105 rfl ?_
              refine rj_if_ne (pc := 106) (tgt := 121) dX11_spells_106 (by decide) (by first | assumption | exact b01_r | exact bz_r | omega | (constructor <;> omega) | exact hM _ | exact hPo _ | exact hTa _ | exact hRo _) (fun c_106 => ?_) (fun c_106 => ?_)
              · try simp only [b01_0, bz_0, Classical.not_not] at c_106
                refine rj_iconst (pc := 121) dX11_spells_121 ?_
                refine r_goto (pc := 122) (tgt := 126) dX11_spells_122 (by decide) ?_
                refine r_istore_n (pc := 126) dX11_spells_126 (Nat.le_of_ble_eq_true rfl) ?_
                dsimp only [lsSt, List.set, mLs, mEnt]
                refine r_iload (pc := 127) dX11_spells_127 rfl ?_
                refine rj_if_eq (pc := 129) (tgt := 135) dX11_spells_129 (by decide) (by first | assumption | exact b01_r | exact bz_r | omega | (constructor <;> omega) | exact hM _ | exact hPo _ | exact hTa _ | exact hRo _) (fun c_129 => ?_) (fun c_129 => ?_)
                · try simp only [b01_0, bz_0, Classical.not_not] at c_129
                  refine r_aload_n (pc := 135) dX11_spells_135 rfl (by first | rfl | exact isRefV_rf _) ?_
                  refine rm_getf (pc := 136) dX11_spells_136 fX11_33 (by assumption) rfl ?_
                  refine r_aload_n (pc := 139) dX11_spells_139 rfl (by first | rfl | exact isRefV_rf _) ?_
                  refine rm_getf (pc := 140) dX11_spells_140 fX11_298 (by assumption) rfl ?_
                  refine r_iload (pc := 143) dX11_spells_143 rfl ?_
                  first | refine rm_iast6 (pc := 145) (j := w) dX11_spells_145 (by assumption) (by first | assumption | exact b01_r | exact bz_r | omega | (constructor <;> omega) | exact hM _ | exact hPo _ | exact hTa _ | exact hRo _) (by first | assumption | exact b01_r | exact bz_r | omega | (constructor <;> omega) | exact hM _ | exact hPo _ | exact hTa _ | exact hRo _) (by first | assumption | exact b01_r | exact bz_r | omega | (constructor <;> omega) | exact hM _ | exact hPo _ | exact hTa _ | exact hRo _) (by omega) (fun h_145 hB_145 hS_145 => ?_)
                  refine r_aload_n (pc := 146) dX11_spells_146 rfl (by first | rfl | exact isRefV_rf _) ?_
                  refine r_dup (pc := 147) dX11_spells_147 (by first | rfl | (cases ‹Option Nat› <;> rfl)) ?_
                  refine rm_getf (pc := 148) dX11_spells_148 fX11_298 (by assumption) rfl ?_
                  refine rj_iconst (pc := 151) dX11_spells_151 ?_
                  refine rj_iadd (pc := 152) dX11_spells_152 ?_
                  refine rm_putf (pc := 153) dX11_spells_153 fX11_298 (by assumption) rfl rfl (Nat.le_of_ble_eq_true rfl) (fun h_153 hB_153 hS_153 => ?_)
                  dsimp only [List.set, mFs] at hB_153
                  refine rj_iinc (pc := 156) dX11_spells_156 (Nat.le_of_ble_eq_true rfl) rfl ?_
                  dsimp only [lsSt, List.set, mLs, mEnt]
                  refine r_goto (pc := 159) (tgt := 10) dX11_spells_159 (by decide) ?_
                  rw [show ((p : Int) + 1) = ((p + 1 : Nat) : Int) by omega]
                  rw [spS, if_neg (fun g => c_40 g.1), if_neg (fun g => absurd g.2.1 (by simpa using c_63))]
                  rw [show decide (dgP (pool p)) = true from decide_eq_true c_102]
                  have y := ih (p + 1) true (updI pap w (pool p)) (w + 1) _ (some (.int (J (pool p)))) (some (.int (J (b01 (48 ≤ pool p ∧ pool p ≤ 57))))) (some (.int (J 0))) (by omega) (by omega) (by omega) (by rw [show ((w + 1 : Nat) : Int) = (w : Int) + 1 by omega]; exact hB_153)
                  rw [show bz true = 1 from rfl] at y
                  exact y.mono (fun v h' q => ⟨q.1, q.2.1, (hS_145.trans hS_153).trans q.2.2⟩)
                · try simp only [b01_0, bz_0, Classical.not_not] at c_129
                  all_goals (first | exact absurd trivial ‹¬ True› | exact absurd c_59 c_113 | exact absurd c_106 c_63 | (exfalso; omega))
              · try simp only [b01_0, bz_0, Classical.not_not] at c_106
                refine r_iload (pc := 109) dX11_spells_109 rfl ?_
                refine rj_bipush (pc := 111) dX11_spells_111 (by decide +kernel) ?_
                refine rj_icmp_ne (pc := 113) (tgt := 121) dX11_spells_113 (by decide) (by first | assumption | exact b01_r | exact bz_r | omega | (constructor <;> omega) | exact hM _ | exact hPo _ | exact hTa _ | exact hRo _) (by first | assumption | exact b01_r | exact bz_r | omega | (constructor <;> omega) | exact hM _ | exact hPo _ | exact hTa _ | exact hRo _) (fun c_113 => ?_) (fun c_113 => ?_)
                · refine rj_iconst (pc := 121) dX11_spells_121 ?_
                  refine r_goto (pc := 122) (tgt := 126) dX11_spells_122 (by decide) ?_
                  refine r_istore_n (pc := 126) dX11_spells_126 (Nat.le_of_ble_eq_true rfl) ?_
                  dsimp only [lsSt, List.set, mLs, mEnt]
                  refine r_iload (pc := 127) dX11_spells_127 rfl ?_
                  refine rj_if_eq (pc := 129) (tgt := 135) dX11_spells_129 (by decide) (by first | assumption | exact b01_r | exact bz_r | omega | (constructor <;> omega) | exact hM _ | exact hPo _ | exact hTa _ | exact hRo _) (fun c_129 => ?_) (fun c_129 => ?_)
                  · try simp only [b01_0, bz_0, Classical.not_not] at c_129
                    refine r_aload_n (pc := 135) dX11_spells_135 rfl (by first | rfl | exact isRefV_rf _) ?_
                    refine rm_getf (pc := 136) dX11_spells_136 fX11_33 (by assumption) rfl ?_
                    refine r_aload_n (pc := 139) dX11_spells_139 rfl (by first | rfl | exact isRefV_rf _) ?_
                    refine rm_getf (pc := 140) dX11_spells_140 fX11_298 (by assumption) rfl ?_
                    refine r_iload (pc := 143) dX11_spells_143 rfl ?_
                    first | refine rm_iast6 (pc := 145) (j := w) dX11_spells_145 (by assumption) (by first | assumption | exact b01_r | exact bz_r | omega | (constructor <;> omega) | exact hM _ | exact hPo _ | exact hTa _ | exact hRo _) (by first | assumption | exact b01_r | exact bz_r | omega | (constructor <;> omega) | exact hM _ | exact hPo _ | exact hTa _ | exact hRo _) (by first | assumption | exact b01_r | exact bz_r | omega | (constructor <;> omega) | exact hM _ | exact hPo _ | exact hTa _ | exact hRo _) (by omega) (fun h_145 hB_145 hS_145 => ?_)
                    refine r_aload_n (pc := 146) dX11_spells_146 rfl (by first | rfl | exact isRefV_rf _) ?_
                    refine r_dup (pc := 147) dX11_spells_147 (by first | rfl | (cases ‹Option Nat› <;> rfl)) ?_
                    refine rm_getf (pc := 148) dX11_spells_148 fX11_298 (by assumption) rfl ?_
                    refine rj_iconst (pc := 151) dX11_spells_151 ?_
                    refine rj_iadd (pc := 152) dX11_spells_152 ?_
                    refine rm_putf (pc := 153) dX11_spells_153 fX11_298 (by assumption) rfl rfl (Nat.le_of_ble_eq_true rfl) (fun h_153 hB_153 hS_153 => ?_)
                    dsimp only [List.set, mFs] at hB_153
                    refine rj_iinc (pc := 156) dX11_spells_156 (Nat.le_of_ble_eq_true rfl) rfl ?_
                    dsimp only [lsSt, List.set, mLs, mEnt]
                    refine r_goto (pc := 159) (tgt := 10) dX11_spells_159 (by decide) ?_
                    rw [show ((p : Int) + 1) = ((p + 1 : Nat) : Int) by omega]
                    rw [spS, if_neg (fun g => c_40 g.1), if_neg (fun g => absurd g.2.1 (by simpa using c_63))]
                    rw [show decide (dgP (pool p)) = true from decide_eq_true c_102]
                    have y := ih (p + 1) true (updI pap w (pool p)) (w + 1) _ (some (.int (J (pool p)))) (some (.int (J (b01 (48 ≤ pool p ∧ pool p ≤ 57))))) (some (.int (J 0))) (by omega) (by omega) (by omega) (by rw [show ((w + 1 : Nat) : Int) = (w : Int) + 1 by omega]; exact hB_153)
                    rw [show bz true = 1 from rfl] at y
                    exact y.mono (fun v h' q => ⟨q.1, q.2.1, (hS_145.trans hS_153).trans q.2.2⟩)
                  · try simp only [b01_0, bz_0, Classical.not_not] at c_129
                    all_goals (first | exact absurd trivial ‹¬ True› | exact absurd c_59 c_113 | exact absurd c_106 c_63 | (exfalso; omega))
                · refine r_iload (pc := 116) dX11_spells_116 rfl ?_
                  refine rj_if_ne (pc := 118) (tgt := 125) dX11_spells_118 (by decide) (by first | assumption | exact b01_r | exact bz_r | omega | (constructor <;> omega) | exact hM _ | exact hPo _ | exact hTa _ | exact hRo _) (fun c_118 => ?_) (fun c_118 => ?_)
                  · try simp only [b01_0, bz_0, Classical.not_not] at c_118
                    all_goals (first | exact absurd trivial ‹¬ True› | exact absurd c_59 c_113 | exact absurd c_106 c_63 | (exfalso; omega))
                  · try simp only [b01_0, bz_0, Classical.not_not] at c_118
                    refine rj_iconst (pc := 121) dX11_spells_121 ?_
                    refine r_goto (pc := 122) (tgt := 126) dX11_spells_122 (by decide) ?_
                    refine r_istore_n (pc := 126) dX11_spells_126 (Nat.le_of_ble_eq_true rfl) ?_
                    dsimp only [lsSt, List.set, mLs, mEnt]
                    refine r_iload (pc := 127) dX11_spells_127 rfl ?_
                    refine rj_if_eq (pc := 129) (tgt := 135) dX11_spells_129 (by decide) (by first | assumption | exact b01_r | exact bz_r | omega | (constructor <;> omega) | exact hM _ | exact hPo _ | exact hTa _ | exact hRo _) (fun c_129 => ?_) (fun c_129 => ?_)
                    · try simp only [b01_0, bz_0, Classical.not_not] at c_129
                      refine r_aload_n (pc := 135) dX11_spells_135 rfl (by first | rfl | exact isRefV_rf _) ?_
                      refine rm_getf (pc := 136) dX11_spells_136 fX11_33 (by assumption) rfl ?_
                      refine r_aload_n (pc := 139) dX11_spells_139 rfl (by first | rfl | exact isRefV_rf _) ?_
                      refine rm_getf (pc := 140) dX11_spells_140 fX11_298 (by assumption) rfl ?_
                      refine r_iload (pc := 143) dX11_spells_143 rfl ?_
                      first | refine rm_iast6 (pc := 145) (j := w) dX11_spells_145 (by assumption) (by first | assumption | exact b01_r | exact bz_r | omega | (constructor <;> omega) | exact hM _ | exact hPo _ | exact hTa _ | exact hRo _) (by first | assumption | exact b01_r | exact bz_r | omega | (constructor <;> omega) | exact hM _ | exact hPo _ | exact hTa _ | exact hRo _) (by first | assumption | exact b01_r | exact bz_r | omega | (constructor <;> omega) | exact hM _ | exact hPo _ | exact hTa _ | exact hRo _) (by omega) (fun h_145 hB_145 hS_145 => ?_)
                      refine r_aload_n (pc := 146) dX11_spells_146 rfl (by first | rfl | exact isRefV_rf _) ?_
                      refine r_dup (pc := 147) dX11_spells_147 (by first | rfl | (cases ‹Option Nat› <;> rfl)) ?_
                      refine rm_getf (pc := 148) dX11_spells_148 fX11_298 (by assumption) rfl ?_
                      refine rj_iconst (pc := 151) dX11_spells_151 ?_
                      refine rj_iadd (pc := 152) dX11_spells_152 ?_
                      refine rm_putf (pc := 153) dX11_spells_153 fX11_298 (by assumption) rfl rfl (Nat.le_of_ble_eq_true rfl) (fun h_153 hB_153 hS_153 => ?_)
                      dsimp only [List.set, mFs] at hB_153
                      refine rj_iinc (pc := 156) dX11_spells_156 (Nat.le_of_ble_eq_true rfl) rfl ?_
                      dsimp only [lsSt, List.set, mLs, mEnt]
                      refine r_goto (pc := 159) (tgt := 10) dX11_spells_159 (by decide) ?_
                      rw [show ((p : Int) + 1) = ((p + 1 : Nat) : Int) by omega]
                      rw [spS, if_neg (fun g => c_40 g.1), if_neg (fun g => absurd g.2.1 (by simpa using c_63))]
                      rw [show decide (dgP (pool p)) = true from decide_eq_true c_102]
                      have y := ih (p + 1) true (updI pap w (pool p)) (w + 1) _ (some (.int (J (pool p)))) (some (.int (J (b01 (48 ≤ pool p ∧ pool p ≤ 57))))) (some (.int (J 0))) (by omega) (by omega) (by omega) (by rw [show ((w + 1 : Nat) : Int) = (w : Int) + 1 by omega]; exact hB_153)
                      rw [show bz true = 1 from rfl] at y
                      exact y.mono (fun v h' q => ⟨q.1, q.2.1, (hS_145.trans hS_153).trans q.2.2⟩)
                    · try simp only [b01_0, bz_0, Classical.not_not] at c_129
                      all_goals (first | exact absurd trivial ‹¬ True› | exact absurd c_59 c_113 | exact absurd c_106 c_63 | (exfalso; omega))
          · try simp only [b01_0, bz_0, Classical.not_not] at c_63
            refine r_iload (pc := 66) dX11_spells_66 rfl ?_
            refine rj_iconst (pc := 68) dX11_spells_68 ?_
            refine rj_iadd (pc := 69) dX11_spells_69 ?_
            refine r_iload_n (pc := 70) dX11_spells_70 rfl ?_
            refine rj_icmp_ge (pc := 71) (tgt := 97) dX11_spells_71 (by decide) (by first | assumption | exact b01_r | exact bz_r | omega | (constructor <;> omega) | exact hM _ | exact hPo _ | exact hTa _ | exact hRo _) (by first | assumption | exact b01_r | exact bz_r | omega | (constructor <;> omega) | exact hM _ | exact hPo _ | exact hTa _ | exact hRo _) (fun c_71 => ?_) (fun c_71 => ?_)
            · refine rj_iconst (pc := 97) dX11_spells_97 ?_
              refine r_istore (pc := 98) dX11_spells_98 (Nat.le_of_ble_eq_true rfl) ?_
              dsimp only [lsSt, List.set, mLs, mEnt]
              refine r_iload (pc := 100) dX11_spells_100 rfl ?_
              refine rj_if_eq (pc := 102) (tgt := 125) dX11_spells_102 (by decide) (by first | assumption | exact b01_r | exact bz_r | omega | (constructor <;> omega) | exact hM _ | exact hPo _ | exact hTa _ | exact hRo _) (fun c_102 => ?_) (fun c_102 => ?_)
              · try simp only [b01_0, bz_0, Classical.not_not] at c_102
                refine rj_iconst (pc := 125) dX11_spells_125 ?_
                refine r_istore_n (pc := 126) dX11_spells_126 (Nat.le_of_ble_eq_true rfl) ?_
                dsimp only [lsSt, List.set, mLs, mEnt]
                refine r_iload (pc := 127) dX11_spells_127 rfl ?_
                refine rj_if_eq (pc := 129) (tgt := 135) dX11_spells_129 (by decide) (by first | assumption | exact b01_r | exact bz_r | omega | (constructor <;> omega) | exact hM _ | exact hPo _ | exact hTa _ | exact hRo _) (fun c_129 => ?_) (fun c_129 => ?_)
                · try simp only [b01_0, bz_0, Classical.not_not] at c_129
                  refine r_aload_n (pc := 135) dX11_spells_135 rfl (by first | rfl | exact isRefV_rf _) ?_
                  refine rm_getf (pc := 136) dX11_spells_136 fX11_33 (by assumption) rfl ?_
                  refine r_aload_n (pc := 139) dX11_spells_139 rfl (by first | rfl | exact isRefV_rf _) ?_
                  refine rm_getf (pc := 140) dX11_spells_140 fX11_298 (by assumption) rfl ?_
                  refine r_iload (pc := 143) dX11_spells_143 rfl ?_
                  first | refine rm_iast6 (pc := 145) (j := w) dX11_spells_145 (by assumption) (by first | assumption | exact b01_r | exact bz_r | omega | (constructor <;> omega) | exact hM _ | exact hPo _ | exact hTa _ | exact hRo _) (by first | assumption | exact b01_r | exact bz_r | omega | (constructor <;> omega) | exact hM _ | exact hPo _ | exact hTa _ | exact hRo _) (by first | assumption | exact b01_r | exact bz_r | omega | (constructor <;> omega) | exact hM _ | exact hPo _ | exact hTa _ | exact hRo _) (by omega) (fun h_145 hB_145 hS_145 => ?_)
                  refine r_aload_n (pc := 146) dX11_spells_146 rfl (by first | rfl | exact isRefV_rf _) ?_
                  refine r_dup (pc := 147) dX11_spells_147 (by first | rfl | (cases ‹Option Nat› <;> rfl)) ?_
                  refine rm_getf (pc := 148) dX11_spells_148 fX11_298 (by assumption) rfl ?_
                  refine rj_iconst (pc := 151) dX11_spells_151 ?_
                  refine rj_iadd (pc := 152) dX11_spells_152 ?_
                  refine rm_putf (pc := 153) dX11_spells_153 fX11_298 (by assumption) rfl rfl (Nat.le_of_ble_eq_true rfl) (fun h_153 hB_153 hS_153 => ?_)
                  dsimp only [List.set, mFs] at hB_153
                  refine rj_iinc (pc := 156) dX11_spells_156 (Nat.le_of_ble_eq_true rfl) rfl ?_
                  dsimp only [lsSt, List.set, mLs, mEnt]
                  refine r_goto (pc := 159) (tgt := 10) dX11_spells_159 (by decide) ?_
                  rw [show ((p : Int) + 1) = ((p + 1 : Nat) : Int) by omega]
                  rw [spS, if_neg (fun g => c_40 g.1), if_neg (fun g => absurd g.2.2.1 (by omega))]
                  rw [show decide (dgP (pool p)) = false from decide_eq_false c_102]
                  have y := ih (p + 1) false (updI pap w (pool p)) (w + 1) _ (some (.int (J (pool p)))) (some (.int (J (b01 (48 ≤ pool p ∧ pool p ≤ 57))))) (some (.int (J 0))) (by omega) (by omega) (by omega) (by rw [show ((w + 1 : Nat) : Int) = (w : Int) + 1 by omega]; exact hB_153)
                  rw [show bz false = 0 from rfl] at y
                  exact y.mono (fun v h' q => ⟨q.1, q.2.1, (hS_145.trans hS_153).trans q.2.2⟩)
                · try simp only [b01_0, bz_0, Classical.not_not] at c_129
                  all_goals (first | exact absurd trivial ‹¬ True› | exact absurd c_59 c_113 | exact absurd c_106 c_63 | (exfalso; omega))
              · try simp only [b01_0, bz_0, Classical.not_not] at c_102
                refine r_iload_n (pc := 105) dX11_spells_105 rfl ?_
                refine rj_if_ne (pc := 106) (tgt := 121) dX11_spells_106 (by decide) (by first | assumption | exact b01_r | exact bz_r | omega | (constructor <;> omega) | exact hM _ | exact hPo _ | exact hTa _ | exact hRo _) (fun c_106 => ?_) (fun c_106 => ?_)
                · try simp only [b01_0, bz_0, Classical.not_not] at c_106
                  refine rj_iconst (pc := 121) dX11_spells_121 ?_
                  refine r_goto (pc := 122) (tgt := 126) dX11_spells_122 (by decide) ?_
                  refine r_istore_n (pc := 126) dX11_spells_126 (Nat.le_of_ble_eq_true rfl) ?_
                  dsimp only [lsSt, List.set, mLs, mEnt]
                  refine r_iload (pc := 127) dX11_spells_127 rfl ?_
                  refine rj_if_eq (pc := 129) (tgt := 135) dX11_spells_129 (by decide) (by first | assumption | exact b01_r | exact bz_r | omega | (constructor <;> omega) | exact hM _ | exact hPo _ | exact hTa _ | exact hRo _) (fun c_129 => ?_) (fun c_129 => ?_)
                  · try simp only [b01_0, bz_0, Classical.not_not] at c_129
                    refine r_aload_n (pc := 135) dX11_spells_135 rfl (by first | rfl | exact isRefV_rf _) ?_
                    refine rm_getf (pc := 136) dX11_spells_136 fX11_33 (by assumption) rfl ?_
                    refine r_aload_n (pc := 139) dX11_spells_139 rfl (by first | rfl | exact isRefV_rf _) ?_
                    refine rm_getf (pc := 140) dX11_spells_140 fX11_298 (by assumption) rfl ?_
                    refine r_iload (pc := 143) dX11_spells_143 rfl ?_
                    first | refine rm_iast6 (pc := 145) (j := w) dX11_spells_145 (by assumption) (by first | assumption | exact b01_r | exact bz_r | omega | (constructor <;> omega) | exact hM _ | exact hPo _ | exact hTa _ | exact hRo _) (by first | assumption | exact b01_r | exact bz_r | omega | (constructor <;> omega) | exact hM _ | exact hPo _ | exact hTa _ | exact hRo _) (by first | assumption | exact b01_r | exact bz_r | omega | (constructor <;> omega) | exact hM _ | exact hPo _ | exact hTa _ | exact hRo _) (by omega) (fun h_145 hB_145 hS_145 => ?_)
                    refine r_aload_n (pc := 146) dX11_spells_146 rfl (by first | rfl | exact isRefV_rf _) ?_
                    refine r_dup (pc := 147) dX11_spells_147 (by first | rfl | (cases ‹Option Nat› <;> rfl)) ?_
                    refine rm_getf (pc := 148) dX11_spells_148 fX11_298 (by assumption) rfl ?_
                    refine rj_iconst (pc := 151) dX11_spells_151 ?_
                    refine rj_iadd (pc := 152) dX11_spells_152 ?_
                    refine rm_putf (pc := 153) dX11_spells_153 fX11_298 (by assumption) rfl rfl (Nat.le_of_ble_eq_true rfl) (fun h_153 hB_153 hS_153 => ?_)
                    dsimp only [List.set, mFs] at hB_153
                    refine rj_iinc (pc := 156) dX11_spells_156 (Nat.le_of_ble_eq_true rfl) rfl ?_
                    dsimp only [lsSt, List.set, mLs, mEnt]
                    refine r_goto (pc := 159) (tgt := 10) dX11_spells_159 (by decide) ?_
                    rw [show ((p : Int) + 1) = ((p + 1 : Nat) : Int) by omega]
                    rw [spS, if_neg (fun g => c_40 g.1), if_neg (fun g => absurd g.2.2.1 (by omega))]
                    rw [show decide (dgP (pool p)) = true from decide_eq_true c_102]
                    have y := ih (p + 1) true (updI pap w (pool p)) (w + 1) _ (some (.int (J (pool p)))) (some (.int (J (b01 (48 ≤ pool p ∧ pool p ≤ 57))))) (some (.int (J 0))) (by omega) (by omega) (by omega) (by rw [show ((w + 1 : Nat) : Int) = (w : Int) + 1 by omega]; exact hB_153)
                    rw [show bz true = 1 from rfl] at y
                    exact y.mono (fun v h' q => ⟨q.1, q.2.1, (hS_145.trans hS_153).trans q.2.2⟩)
                  · try simp only [b01_0, bz_0, Classical.not_not] at c_129
                    all_goals (first | exact absurd trivial ‹¬ True› | exact absurd c_59 c_113 | exact absurd c_106 c_63 | (exfalso; omega))
                · try simp only [b01_0, bz_0, Classical.not_not] at c_106
                  refine r_iload (pc := 109) dX11_spells_109 rfl ?_
                  refine rj_bipush (pc := 111) dX11_spells_111 (by decide +kernel) ?_
                  refine rj_icmp_ne (pc := 113) (tgt := 121) dX11_spells_113 (by decide) (by first | assumption | exact b01_r | exact bz_r | omega | (constructor <;> omega) | exact hM _ | exact hPo _ | exact hTa _ | exact hRo _) (by first | assumption | exact b01_r | exact bz_r | omega | (constructor <;> omega) | exact hM _ | exact hPo _ | exact hTa _ | exact hRo _) (fun c_113 => ?_) (fun c_113 => ?_)
                  · refine rj_iconst (pc := 121) dX11_spells_121 ?_
                    refine r_goto (pc := 122) (tgt := 126) dX11_spells_122 (by decide) ?_
                    refine r_istore_n (pc := 126) dX11_spells_126 (Nat.le_of_ble_eq_true rfl) ?_
                    dsimp only [lsSt, List.set, mLs, mEnt]
                    refine r_iload (pc := 127) dX11_spells_127 rfl ?_
                    refine rj_if_eq (pc := 129) (tgt := 135) dX11_spells_129 (by decide) (by first | assumption | exact b01_r | exact bz_r | omega | (constructor <;> omega) | exact hM _ | exact hPo _ | exact hTa _ | exact hRo _) (fun c_129 => ?_) (fun c_129 => ?_)
                    · try simp only [b01_0, bz_0, Classical.not_not] at c_129
                      refine r_aload_n (pc := 135) dX11_spells_135 rfl (by first | rfl | exact isRefV_rf _) ?_
                      refine rm_getf (pc := 136) dX11_spells_136 fX11_33 (by assumption) rfl ?_
                      refine r_aload_n (pc := 139) dX11_spells_139 rfl (by first | rfl | exact isRefV_rf _) ?_
                      refine rm_getf (pc := 140) dX11_spells_140 fX11_298 (by assumption) rfl ?_
                      refine r_iload (pc := 143) dX11_spells_143 rfl ?_
                      first | refine rm_iast6 (pc := 145) (j := w) dX11_spells_145 (by assumption) (by first | assumption | exact b01_r | exact bz_r | omega | (constructor <;> omega) | exact hM _ | exact hPo _ | exact hTa _ | exact hRo _) (by first | assumption | exact b01_r | exact bz_r | omega | (constructor <;> omega) | exact hM _ | exact hPo _ | exact hTa _ | exact hRo _) (by first | assumption | exact b01_r | exact bz_r | omega | (constructor <;> omega) | exact hM _ | exact hPo _ | exact hTa _ | exact hRo _) (by omega) (fun h_145 hB_145 hS_145 => ?_)
                      refine r_aload_n (pc := 146) dX11_spells_146 rfl (by first | rfl | exact isRefV_rf _) ?_
                      refine r_dup (pc := 147) dX11_spells_147 (by first | rfl | (cases ‹Option Nat› <;> rfl)) ?_
                      refine rm_getf (pc := 148) dX11_spells_148 fX11_298 (by assumption) rfl ?_
                      refine rj_iconst (pc := 151) dX11_spells_151 ?_
                      refine rj_iadd (pc := 152) dX11_spells_152 ?_
                      refine rm_putf (pc := 153) dX11_spells_153 fX11_298 (by assumption) rfl rfl (Nat.le_of_ble_eq_true rfl) (fun h_153 hB_153 hS_153 => ?_)
                      dsimp only [List.set, mFs] at hB_153
                      refine rj_iinc (pc := 156) dX11_spells_156 (Nat.le_of_ble_eq_true rfl) rfl ?_
                      dsimp only [lsSt, List.set, mLs, mEnt]
                      refine r_goto (pc := 159) (tgt := 10) dX11_spells_159 (by decide) ?_
                      rw [show ((p : Int) + 1) = ((p + 1 : Nat) : Int) by omega]
                      rw [spS, if_neg (fun g => c_40 g.1), if_neg (fun g => absurd g.2.2.1 (by omega))]
                      rw [show decide (dgP (pool p)) = true from decide_eq_true c_102]
                      have y := ih (p + 1) true (updI pap w (pool p)) (w + 1) _ (some (.int (J (pool p)))) (some (.int (J (b01 (48 ≤ pool p ∧ pool p ≤ 57))))) (some (.int (J 0))) (by omega) (by omega) (by omega) (by rw [show ((w + 1 : Nat) : Int) = (w : Int) + 1 by omega]; exact hB_153)
                      rw [show bz true = 1 from rfl] at y
                      exact y.mono (fun v h' q => ⟨q.1, q.2.1, (hS_145.trans hS_153).trans q.2.2⟩)
                    · try simp only [b01_0, bz_0, Classical.not_not] at c_129
                      all_goals (first | exact absurd trivial ‹¬ True› | exact absurd c_59 c_113 | exact absurd c_106 c_63 | (exfalso; omega))
                  · refine r_iload (pc := 116) dX11_spells_116 rfl ?_
                    refine rj_if_ne (pc := 118) (tgt := 125) dX11_spells_118 (by decide) (by first | assumption | exact b01_r | exact bz_r | omega | (constructor <;> omega) | exact hM _ | exact hPo _ | exact hTa _ | exact hRo _) (fun c_118 => ?_) (fun c_118 => ?_)
                    · try simp only [b01_0, bz_0, Classical.not_not] at c_118
                      all_goals (first | exact absurd trivial ‹¬ True› | exact absurd c_59 c_113 | exact absurd c_106 c_63 | (exfalso; omega))
                    · try simp only [b01_0, bz_0, Classical.not_not] at c_118
                      refine rj_iconst (pc := 121) dX11_spells_121 ?_
                      refine r_goto (pc := 122) (tgt := 126) dX11_spells_122 (by decide) ?_
                      refine r_istore_n (pc := 126) dX11_spells_126 (Nat.le_of_ble_eq_true rfl) ?_
                      dsimp only [lsSt, List.set, mLs, mEnt]
                      refine r_iload (pc := 127) dX11_spells_127 rfl ?_
                      refine rj_if_eq (pc := 129) (tgt := 135) dX11_spells_129 (by decide) (by first | assumption | exact b01_r | exact bz_r | omega | (constructor <;> omega) | exact hM _ | exact hPo _ | exact hTa _ | exact hRo _) (fun c_129 => ?_) (fun c_129 => ?_)
                      · try simp only [b01_0, bz_0, Classical.not_not] at c_129
                        refine r_aload_n (pc := 135) dX11_spells_135 rfl (by first | rfl | exact isRefV_rf _) ?_
                        refine rm_getf (pc := 136) dX11_spells_136 fX11_33 (by assumption) rfl ?_
                        refine r_aload_n (pc := 139) dX11_spells_139 rfl (by first | rfl | exact isRefV_rf _) ?_
                        refine rm_getf (pc := 140) dX11_spells_140 fX11_298 (by assumption) rfl ?_
                        refine r_iload (pc := 143) dX11_spells_143 rfl ?_
                        first | refine rm_iast6 (pc := 145) (j := w) dX11_spells_145 (by assumption) (by first | assumption | exact b01_r | exact bz_r | omega | (constructor <;> omega) | exact hM _ | exact hPo _ | exact hTa _ | exact hRo _) (by first | assumption | exact b01_r | exact bz_r | omega | (constructor <;> omega) | exact hM _ | exact hPo _ | exact hTa _ | exact hRo _) (by first | assumption | exact b01_r | exact bz_r | omega | (constructor <;> omega) | exact hM _ | exact hPo _ | exact hTa _ | exact hRo _) (by omega) (fun h_145 hB_145 hS_145 => ?_)
                        refine r_aload_n (pc := 146) dX11_spells_146 rfl (by first | rfl | exact isRefV_rf _) ?_
                        refine r_dup (pc := 147) dX11_spells_147 (by first | rfl | (cases ‹Option Nat› <;> rfl)) ?_
                        refine rm_getf (pc := 148) dX11_spells_148 fX11_298 (by assumption) rfl ?_
                        refine rj_iconst (pc := 151) dX11_spells_151 ?_
                        refine rj_iadd (pc := 152) dX11_spells_152 ?_
                        refine rm_putf (pc := 153) dX11_spells_153 fX11_298 (by assumption) rfl rfl (Nat.le_of_ble_eq_true rfl) (fun h_153 hB_153 hS_153 => ?_)
                        dsimp only [List.set, mFs] at hB_153
                        refine rj_iinc (pc := 156) dX11_spells_156 (Nat.le_of_ble_eq_true rfl) rfl ?_
                        dsimp only [lsSt, List.set, mLs, mEnt]
                        refine r_goto (pc := 159) (tgt := 10) dX11_spells_159 (by decide) ?_
                        rw [show ((p : Int) + 1) = ((p + 1 : Nat) : Int) by omega]
                        rw [spS, if_neg (fun g => c_40 g.1), if_neg (fun g => absurd g.2.2.1 (by omega))]
                        rw [show decide (dgP (pool p)) = true from decide_eq_true c_102]
                        have y := ih (p + 1) true (updI pap w (pool p)) (w + 1) _ (some (.int (J (pool p)))) (some (.int (J (b01 (48 ≤ pool p ∧ pool p ≤ 57))))) (some (.int (J 0))) (by omega) (by omega) (by omega) (by rw [show ((w + 1 : Nat) : Int) = (w : Int) + 1 by omega]; exact hB_153)
                        rw [show bz true = 1 from rfl] at y
                        exact y.mono (fun v h' q => ⟨q.1, q.2.1, (hS_145.trans hS_153).trans q.2.2⟩)
                      · try simp only [b01_0, bz_0, Classical.not_not] at c_129
                        all_goals (first | exact absurd trivial ‹¬ True› | exact absurd c_59 c_113 | exact absurd c_106 c_63 | (exfalso; omega))
            · refine r_aload_n (pc := 74) dX11_spells_74 rfl (by first | rfl | exact isRefV_rf _) ?_
              refine rm_getf (pc := 75) dX11_spells_75 fX11_21 (by assumption) rfl ?_
              refine r_iload (pc := 78) dX11_spells_78 rfl ?_
              refine rj_iconst (pc := 80) dX11_spells_80 ?_
              refine rj_iadd (pc := 81) dX11_spells_81 ?_
              refine rj_iald (pc := 82) (j := p + 1) dX11_spells_82 (by first | exact isM.g0 (by assumption) | exact isM.g3 (by assumption) | exact isM.g4 (by assumption) | exact isM.g8 (by assumption) | exact isM.g7 (by assumption) | exact isM.g6 (by assumption) | exact isM.g5 (by assumption) | exact isM.g1 (by assumption) | exact isM.g2 (by assumption)) (by first | assumption | exact b01_r | exact bz_r | omega | (constructor <;> omega) | exact hM _ | exact hPo _ | exact hTa _ | exact hRo _) (by first | assumption | exact b01_r | exact bz_r | omega | (constructor <;> omega) | exact hM _ | exact hPo _ | exact hTa _ | exact hRo _) (by first | assumption | exact b01_r | exact bz_r | omega | (constructor <;> omega) | exact hM _ | exact hPo _ | exact hTa _ | exact hRo _) (by omega) ?_
              refine rj_bipush (pc := 83) dX11_spells_83 (by decide +kernel) ?_
              refine rj_bipush (pc := 85) dX11_spells_85 (by decide +kernel) ?_
              refine r_callS3 (pc := 87) dX11_spells_87 qX11_isIn kX11_46 sX11_isIn (Nat.le_of_ble_eq_true rfl) ((m_isIn 0 rp1 (by decide) (by decide)).deeper (by omega)) (fun v_87 h_87 q_87 => ?_)
              obtain ⟨rfl, rfl⟩ := q_87
              refine rj_if_eq (pc := 90) (tgt := 97) dX11_spells_90 (by decide) (by first | assumption | exact b01_r | exact bz_r | omega | (constructor <;> omega) | exact hM _ | exact hPo _ | exact hTa _ | exact hRo _) (fun c_90 => ?_) (fun c_90 => ?_)
              · try simp only [b01_0, bz_0, Classical.not_not] at c_90
                refine rj_iconst (pc := 97) dX11_spells_97 ?_
                refine r_istore (pc := 98) dX11_spells_98 (Nat.le_of_ble_eq_true rfl) ?_
                dsimp only [lsSt, List.set, mLs, mEnt]
                refine r_iload (pc := 100) dX11_spells_100 rfl ?_
                refine rj_if_eq (pc := 102) (tgt := 125) dX11_spells_102 (by decide) (by first | assumption | exact b01_r | exact bz_r | omega | (constructor <;> omega) | exact hM _ | exact hPo _ | exact hTa _ | exact hRo _) (fun c_102 => ?_) (fun c_102 => ?_)
                · try simp only [b01_0, bz_0, Classical.not_not] at c_102
                  refine rj_iconst (pc := 125) dX11_spells_125 ?_
                  refine r_istore_n (pc := 126) dX11_spells_126 (Nat.le_of_ble_eq_true rfl) ?_
                  dsimp only [lsSt, List.set, mLs, mEnt]
                  refine r_iload (pc := 127) dX11_spells_127 rfl ?_
                  refine rj_if_eq (pc := 129) (tgt := 135) dX11_spells_129 (by decide) (by first | assumption | exact b01_r | exact bz_r | omega | (constructor <;> omega) | exact hM _ | exact hPo _ | exact hTa _ | exact hRo _) (fun c_129 => ?_) (fun c_129 => ?_)
                  · try simp only [b01_0, bz_0, Classical.not_not] at c_129
                    refine r_aload_n (pc := 135) dX11_spells_135 rfl (by first | rfl | exact isRefV_rf _) ?_
                    refine rm_getf (pc := 136) dX11_spells_136 fX11_33 (by assumption) rfl ?_
                    refine r_aload_n (pc := 139) dX11_spells_139 rfl (by first | rfl | exact isRefV_rf _) ?_
                    refine rm_getf (pc := 140) dX11_spells_140 fX11_298 (by assumption) rfl ?_
                    refine r_iload (pc := 143) dX11_spells_143 rfl ?_
                    first | refine rm_iast6 (pc := 145) (j := w) dX11_spells_145 (by assumption) (by first | assumption | exact b01_r | exact bz_r | omega | (constructor <;> omega) | exact hM _ | exact hPo _ | exact hTa _ | exact hRo _) (by first | assumption | exact b01_r | exact bz_r | omega | (constructor <;> omega) | exact hM _ | exact hPo _ | exact hTa _ | exact hRo _) (by first | assumption | exact b01_r | exact bz_r | omega | (constructor <;> omega) | exact hM _ | exact hPo _ | exact hTa _ | exact hRo _) (by omega) (fun h_145 hB_145 hS_145 => ?_)
                    refine r_aload_n (pc := 146) dX11_spells_146 rfl (by first | rfl | exact isRefV_rf _) ?_
                    refine r_dup (pc := 147) dX11_spells_147 (by first | rfl | (cases ‹Option Nat› <;> rfl)) ?_
                    refine rm_getf (pc := 148) dX11_spells_148 fX11_298 (by assumption) rfl ?_
                    refine rj_iconst (pc := 151) dX11_spells_151 ?_
                    refine rj_iadd (pc := 152) dX11_spells_152 ?_
                    refine rm_putf (pc := 153) dX11_spells_153 fX11_298 (by assumption) rfl rfl (Nat.le_of_ble_eq_true rfl) (fun h_153 hB_153 hS_153 => ?_)
                    dsimp only [List.set, mFs] at hB_153
                    refine rj_iinc (pc := 156) dX11_spells_156 (Nat.le_of_ble_eq_true rfl) rfl ?_
                    dsimp only [lsSt, List.set, mLs, mEnt]
                    refine r_goto (pc := 159) (tgt := 10) dX11_spells_159 (by decide) ?_
                    rw [show ((p : Int) + 1) = ((p + 1 : Nat) : Int) by omega]
                    rw [spS, if_neg (fun g => c_40 g.1), if_neg (fun g => c_90 g.2.2.2)]
                    rw [show decide (dgP (pool p)) = false from decide_eq_false c_102]
                    have y := ih (p + 1) false (updI pap w (pool p)) (w + 1) _ (some (.int (J (pool p)))) (some (.int (J (b01 (48 ≤ pool p ∧ pool p ≤ 57))))) (some (.int (J 0))) (by omega) (by omega) (by omega) (by rw [show ((w + 1 : Nat) : Int) = (w : Int) + 1 by omega]; exact hB_153)
                    rw [show bz false = 0 from rfl] at y
                    exact y.mono (fun v h' q => ⟨q.1, q.2.1, (hS_145.trans hS_153).trans q.2.2⟩)
                  · try simp only [b01_0, bz_0, Classical.not_not] at c_129
                    all_goals (first | exact absurd trivial ‹¬ True› | exact absurd c_59 c_113 | exact absurd c_106 c_63 | (exfalso; omega))
                · try simp only [b01_0, bz_0, Classical.not_not] at c_102
                  refine r_iload_n (pc := 105) dX11_spells_105 rfl ?_
                  refine rj_if_ne (pc := 106) (tgt := 121) dX11_spells_106 (by decide) (by first | assumption | exact b01_r | exact bz_r | omega | (constructor <;> omega) | exact hM _ | exact hPo _ | exact hTa _ | exact hRo _) (fun c_106 => ?_) (fun c_106 => ?_)
                  · try simp only [b01_0, bz_0, Classical.not_not] at c_106
                    refine rj_iconst (pc := 121) dX11_spells_121 ?_
                    refine r_goto (pc := 122) (tgt := 126) dX11_spells_122 (by decide) ?_
                    refine r_istore_n (pc := 126) dX11_spells_126 (Nat.le_of_ble_eq_true rfl) ?_
                    dsimp only [lsSt, List.set, mLs, mEnt]
                    refine r_iload (pc := 127) dX11_spells_127 rfl ?_
                    refine rj_if_eq (pc := 129) (tgt := 135) dX11_spells_129 (by decide) (by first | assumption | exact b01_r | exact bz_r | omega | (constructor <;> omega) | exact hM _ | exact hPo _ | exact hTa _ | exact hRo _) (fun c_129 => ?_) (fun c_129 => ?_)
                    · try simp only [b01_0, bz_0, Classical.not_not] at c_129
                      refine r_aload_n (pc := 135) dX11_spells_135 rfl (by first | rfl | exact isRefV_rf _) ?_
                      refine rm_getf (pc := 136) dX11_spells_136 fX11_33 (by assumption) rfl ?_
                      refine r_aload_n (pc := 139) dX11_spells_139 rfl (by first | rfl | exact isRefV_rf _) ?_
                      refine rm_getf (pc := 140) dX11_spells_140 fX11_298 (by assumption) rfl ?_
                      refine r_iload (pc := 143) dX11_spells_143 rfl ?_
                      first | refine rm_iast6 (pc := 145) (j := w) dX11_spells_145 (by assumption) (by first | assumption | exact b01_r | exact bz_r | omega | (constructor <;> omega) | exact hM _ | exact hPo _ | exact hTa _ | exact hRo _) (by first | assumption | exact b01_r | exact bz_r | omega | (constructor <;> omega) | exact hM _ | exact hPo _ | exact hTa _ | exact hRo _) (by first | assumption | exact b01_r | exact bz_r | omega | (constructor <;> omega) | exact hM _ | exact hPo _ | exact hTa _ | exact hRo _) (by omega) (fun h_145 hB_145 hS_145 => ?_)
                      refine r_aload_n (pc := 146) dX11_spells_146 rfl (by first | rfl | exact isRefV_rf _) ?_
                      refine r_dup (pc := 147) dX11_spells_147 (by first | rfl | (cases ‹Option Nat› <;> rfl)) ?_
                      refine rm_getf (pc := 148) dX11_spells_148 fX11_298 (by assumption) rfl ?_
                      refine rj_iconst (pc := 151) dX11_spells_151 ?_
                      refine rj_iadd (pc := 152) dX11_spells_152 ?_
                      refine rm_putf (pc := 153) dX11_spells_153 fX11_298 (by assumption) rfl rfl (Nat.le_of_ble_eq_true rfl) (fun h_153 hB_153 hS_153 => ?_)
                      dsimp only [List.set, mFs] at hB_153
                      refine rj_iinc (pc := 156) dX11_spells_156 (Nat.le_of_ble_eq_true rfl) rfl ?_
                      dsimp only [lsSt, List.set, mLs, mEnt]
                      refine r_goto (pc := 159) (tgt := 10) dX11_spells_159 (by decide) ?_
                      rw [show ((p : Int) + 1) = ((p + 1 : Nat) : Int) by omega]
                      rw [spS, if_neg (fun g => c_40 g.1), if_neg (fun g => c_90 g.2.2.2)]
                      rw [show decide (dgP (pool p)) = true from decide_eq_true c_102]
                      have y := ih (p + 1) true (updI pap w (pool p)) (w + 1) _ (some (.int (J (pool p)))) (some (.int (J (b01 (48 ≤ pool p ∧ pool p ≤ 57))))) (some (.int (J 0))) (by omega) (by omega) (by omega) (by rw [show ((w + 1 : Nat) : Int) = (w : Int) + 1 by omega]; exact hB_153)
                      rw [show bz true = 1 from rfl] at y
                      exact y.mono (fun v h' q => ⟨q.1, q.2.1, (hS_145.trans hS_153).trans q.2.2⟩)
                    · try simp only [b01_0, bz_0, Classical.not_not] at c_129
                      all_goals (first | exact absurd trivial ‹¬ True› | exact absurd c_59 c_113 | exact absurd c_106 c_63 | (exfalso; omega))
                  · try simp only [b01_0, bz_0, Classical.not_not] at c_106
                    refine r_iload (pc := 109) dX11_spells_109 rfl ?_
                    refine rj_bipush (pc := 111) dX11_spells_111 (by decide +kernel) ?_
                    refine rj_icmp_ne (pc := 113) (tgt := 121) dX11_spells_113 (by decide) (by first | assumption | exact b01_r | exact bz_r | omega | (constructor <;> omega) | exact hM _ | exact hPo _ | exact hTa _ | exact hRo _) (by first | assumption | exact b01_r | exact bz_r | omega | (constructor <;> omega) | exact hM _ | exact hPo _ | exact hTa _ | exact hRo _) (fun c_113 => ?_) (fun c_113 => ?_)
                    · refine rj_iconst (pc := 121) dX11_spells_121 ?_
                      refine r_goto (pc := 122) (tgt := 126) dX11_spells_122 (by decide) ?_
                      refine r_istore_n (pc := 126) dX11_spells_126 (Nat.le_of_ble_eq_true rfl) ?_
                      dsimp only [lsSt, List.set, mLs, mEnt]
                      refine r_iload (pc := 127) dX11_spells_127 rfl ?_
                      refine rj_if_eq (pc := 129) (tgt := 135) dX11_spells_129 (by decide) (by first | assumption | exact b01_r | exact bz_r | omega | (constructor <;> omega) | exact hM _ | exact hPo _ | exact hTa _ | exact hRo _) (fun c_129 => ?_) (fun c_129 => ?_)
                      · try simp only [b01_0, bz_0, Classical.not_not] at c_129
                        refine r_aload_n (pc := 135) dX11_spells_135 rfl (by first | rfl | exact isRefV_rf _) ?_
                        refine rm_getf (pc := 136) dX11_spells_136 fX11_33 (by assumption) rfl ?_
                        refine r_aload_n (pc := 139) dX11_spells_139 rfl (by first | rfl | exact isRefV_rf _) ?_
                        refine rm_getf (pc := 140) dX11_spells_140 fX11_298 (by assumption) rfl ?_
                        refine r_iload (pc := 143) dX11_spells_143 rfl ?_
                        first | refine rm_iast6 (pc := 145) (j := w) dX11_spells_145 (by assumption) (by first | assumption | exact b01_r | exact bz_r | omega | (constructor <;> omega) | exact hM _ | exact hPo _ | exact hTa _ | exact hRo _) (by first | assumption | exact b01_r | exact bz_r | omega | (constructor <;> omega) | exact hM _ | exact hPo _ | exact hTa _ | exact hRo _) (by first | assumption | exact b01_r | exact bz_r | omega | (constructor <;> omega) | exact hM _ | exact hPo _ | exact hTa _ | exact hRo _) (by omega) (fun h_145 hB_145 hS_145 => ?_)
                        refine r_aload_n (pc := 146) dX11_spells_146 rfl (by first | rfl | exact isRefV_rf _) ?_
                        refine r_dup (pc := 147) dX11_spells_147 (by first | rfl | (cases ‹Option Nat› <;> rfl)) ?_
                        refine rm_getf (pc := 148) dX11_spells_148 fX11_298 (by assumption) rfl ?_
                        refine rj_iconst (pc := 151) dX11_spells_151 ?_
                        refine rj_iadd (pc := 152) dX11_spells_152 ?_
                        refine rm_putf (pc := 153) dX11_spells_153 fX11_298 (by assumption) rfl rfl (Nat.le_of_ble_eq_true rfl) (fun h_153 hB_153 hS_153 => ?_)
                        dsimp only [List.set, mFs] at hB_153
                        refine rj_iinc (pc := 156) dX11_spells_156 (Nat.le_of_ble_eq_true rfl) rfl ?_
                        dsimp only [lsSt, List.set, mLs, mEnt]
                        refine r_goto (pc := 159) (tgt := 10) dX11_spells_159 (by decide) ?_
                        rw [show ((p : Int) + 1) = ((p + 1 : Nat) : Int) by omega]
                        rw [spS, if_neg (fun g => c_40 g.1), if_neg (fun g => c_90 g.2.2.2)]
                        rw [show decide (dgP (pool p)) = true from decide_eq_true c_102]
                        have y := ih (p + 1) true (updI pap w (pool p)) (w + 1) _ (some (.int (J (pool p)))) (some (.int (J (b01 (48 ≤ pool p ∧ pool p ≤ 57))))) (some (.int (J 0))) (by omega) (by omega) (by omega) (by rw [show ((w + 1 : Nat) : Int) = (w : Int) + 1 by omega]; exact hB_153)
                        rw [show bz true = 1 from rfl] at y
                        exact y.mono (fun v h' q => ⟨q.1, q.2.1, (hS_145.trans hS_153).trans q.2.2⟩)
                      · try simp only [b01_0, bz_0, Classical.not_not] at c_129
                        all_goals (first | exact absurd trivial ‹¬ True› | exact absurd c_59 c_113 | exact absurd c_106 c_63 | (exfalso; omega))
                    · refine r_iload (pc := 116) dX11_spells_116 rfl ?_
                      refine rj_if_ne (pc := 118) (tgt := 125) dX11_spells_118 (by decide) (by first | assumption | exact b01_r | exact bz_r | omega | (constructor <;> omega) | exact hM _ | exact hPo _ | exact hTa _ | exact hRo _) (fun c_118 => ?_) (fun c_118 => ?_)
                      · try simp only [b01_0, bz_0, Classical.not_not] at c_118
                        all_goals (first | exact absurd trivial ‹¬ True› | exact absurd c_59 c_113 | exact absurd c_106 c_63 | (exfalso; omega))
                      · try simp only [b01_0, bz_0, Classical.not_not] at c_118
                        refine rj_iconst (pc := 121) dX11_spells_121 ?_
                        refine r_goto (pc := 122) (tgt := 126) dX11_spells_122 (by decide) ?_
                        refine r_istore_n (pc := 126) dX11_spells_126 (Nat.le_of_ble_eq_true rfl) ?_
                        dsimp only [lsSt, List.set, mLs, mEnt]
                        refine r_iload (pc := 127) dX11_spells_127 rfl ?_
                        refine rj_if_eq (pc := 129) (tgt := 135) dX11_spells_129 (by decide) (by first | assumption | exact b01_r | exact bz_r | omega | (constructor <;> omega) | exact hM _ | exact hPo _ | exact hTa _ | exact hRo _) (fun c_129 => ?_) (fun c_129 => ?_)
                        · try simp only [b01_0, bz_0, Classical.not_not] at c_129
                          refine r_aload_n (pc := 135) dX11_spells_135 rfl (by first | rfl | exact isRefV_rf _) ?_
                          refine rm_getf (pc := 136) dX11_spells_136 fX11_33 (by assumption) rfl ?_
                          refine r_aload_n (pc := 139) dX11_spells_139 rfl (by first | rfl | exact isRefV_rf _) ?_
                          refine rm_getf (pc := 140) dX11_spells_140 fX11_298 (by assumption) rfl ?_
                          refine r_iload (pc := 143) dX11_spells_143 rfl ?_
                          first | refine rm_iast6 (pc := 145) (j := w) dX11_spells_145 (by assumption) (by first | assumption | exact b01_r | exact bz_r | omega | (constructor <;> omega) | exact hM _ | exact hPo _ | exact hTa _ | exact hRo _) (by first | assumption | exact b01_r | exact bz_r | omega | (constructor <;> omega) | exact hM _ | exact hPo _ | exact hTa _ | exact hRo _) (by first | assumption | exact b01_r | exact bz_r | omega | (constructor <;> omega) | exact hM _ | exact hPo _ | exact hTa _ | exact hRo _) (by omega) (fun h_145 hB_145 hS_145 => ?_)
                          refine r_aload_n (pc := 146) dX11_spells_146 rfl (by first | rfl | exact isRefV_rf _) ?_
                          refine r_dup (pc := 147) dX11_spells_147 (by first | rfl | (cases ‹Option Nat› <;> rfl)) ?_
                          refine rm_getf (pc := 148) dX11_spells_148 fX11_298 (by assumption) rfl ?_
                          refine rj_iconst (pc := 151) dX11_spells_151 ?_
                          refine rj_iadd (pc := 152) dX11_spells_152 ?_
                          refine rm_putf (pc := 153) dX11_spells_153 fX11_298 (by assumption) rfl rfl (Nat.le_of_ble_eq_true rfl) (fun h_153 hB_153 hS_153 => ?_)
                          dsimp only [List.set, mFs] at hB_153
                          refine rj_iinc (pc := 156) dX11_spells_156 (Nat.le_of_ble_eq_true rfl) rfl ?_
                          dsimp only [lsSt, List.set, mLs, mEnt]
                          refine r_goto (pc := 159) (tgt := 10) dX11_spells_159 (by decide) ?_
                          rw [show ((p : Int) + 1) = ((p + 1 : Nat) : Int) by omega]
                          rw [spS, if_neg (fun g => c_40 g.1), if_neg (fun g => c_90 g.2.2.2)]
                          rw [show decide (dgP (pool p)) = true from decide_eq_true c_102]
                          have y := ih (p + 1) true (updI pap w (pool p)) (w + 1) _ (some (.int (J (pool p)))) (some (.int (J (b01 (48 ≤ pool p ∧ pool p ≤ 57))))) (some (.int (J 0))) (by omega) (by omega) (by omega) (by rw [show ((w + 1 : Nat) : Int) = (w : Int) + 1 by omega]; exact hB_153)
                          rw [show bz true = 1 from rfl] at y
                          exact y.mono (fun v h' q => ⟨q.1, q.2.1, (hS_145.trans hS_153).trans q.2.2⟩)
                        · try simp only [b01_0, bz_0, Classical.not_not] at c_129
                          all_goals (first | exact absurd trivial ‹¬ True› | exact absurd c_59 c_113 | exact absurd c_106 c_63 | (exfalso; omega))
              · try simp only [b01_0, bz_0, Classical.not_not] at c_90
                refine rj_iconst (pc := 93) dX11_spells_93 ?_
                refine r_goto (pc := 94) (tgt := 98) dX11_spells_94 (by decide) ?_
                refine r_istore (pc := 98) dX11_spells_98 (Nat.le_of_ble_eq_true rfl) ?_
                dsimp only [lsSt, List.set, mLs, mEnt]
                refine r_iload (pc := 100) dX11_spells_100 rfl ?_
                refine rj_if_eq (pc := 102) (tgt := 125) dX11_spells_102 (by decide) (by first | assumption | exact b01_r | exact bz_r | omega | (constructor <;> omega) | exact hM _ | exact hPo _ | exact hTa _ | exact hRo _) (fun c_102 => ?_) (fun c_102 => ?_)
                · try simp only [b01_0, bz_0, Classical.not_not] at c_102
                  all_goals (first | exact absurd trivial ‹¬ True› | exact absurd c_59 c_113 | exact absurd c_106 c_63 | (exfalso; omega))
                · try simp only [b01_0, bz_0, Classical.not_not] at c_102
                  refine r_iload_n (pc := 105) dX11_spells_105 rfl ?_
                  refine rj_if_ne (pc := 106) (tgt := 121) dX11_spells_106 (by decide) (by first | assumption | exact b01_r | exact bz_r | omega | (constructor <;> omega) | exact hM _ | exact hPo _ | exact hTa _ | exact hRo _) (fun c_106 => ?_) (fun c_106 => ?_)
                  · try simp only [b01_0, bz_0, Classical.not_not] at c_106
                    all_goals (first | exact absurd trivial ‹¬ True› | exact absurd c_59 c_113 | exact absurd c_106 c_63 | (exfalso; omega))
                  · try simp only [b01_0, bz_0, Classical.not_not] at c_106
                    refine r_iload (pc := 109) dX11_spells_109 rfl ?_
                    refine rj_bipush (pc := 111) dX11_spells_111 (by decide +kernel) ?_
                    refine rj_icmp_ne (pc := 113) (tgt := 121) dX11_spells_113 (by decide) (by first | assumption | exact b01_r | exact bz_r | omega | (constructor <;> omega) | exact hM _ | exact hPo _ | exact hTa _ | exact hRo _) (by first | assumption | exact b01_r | exact bz_r | omega | (constructor <;> omega) | exact hM _ | exact hPo _ | exact hTa _ | exact hRo _) (fun c_113 => ?_) (fun c_113 => ?_)
                    · all_goals (first | exact absurd trivial ‹¬ True› | exact absurd c_59 c_113 | exact absurd c_106 c_63 | (exfalso; omega))
                    · refine r_iload (pc := 116) dX11_spells_116 rfl ?_
                      refine rj_if_ne (pc := 118) (tgt := 125) dX11_spells_118 (by decide) (by first | assumption | exact b01_r | exact bz_r | omega | (constructor <;> omega) | exact hM _ | exact hPo _ | exact hTa _ | exact hRo _) (fun c_118 => ?_) (fun c_118 => ?_)
                      · try simp only [b01_0, bz_0, Classical.not_not] at c_118
                        refine rj_iconst (pc := 125) dX11_spells_125 ?_
                        refine r_istore_n (pc := 126) dX11_spells_126 (Nat.le_of_ble_eq_true rfl) ?_
                        dsimp only [lsSt, List.set, mLs, mEnt]
                        refine r_iload (pc := 127) dX11_spells_127 rfl ?_
                        refine rj_if_eq (pc := 129) (tgt := 135) dX11_spells_129 (by decide) (by first | assumption | exact b01_r | exact bz_r | omega | (constructor <;> omega) | exact hM _ | exact hPo _ | exact hTa _ | exact hRo _) (fun c_129 => ?_) (fun c_129 => ?_)
                        · try simp only [b01_0, bz_0, Classical.not_not] at c_129
                          all_goals (first | exact absurd trivial ‹¬ True› | exact absurd c_59 c_113 | exact absurd c_106 c_63 | (exfalso; omega))
                        · try simp only [b01_0, bz_0, Classical.not_not] at c_129
                          refine r_goto (pc := 132) (tgt := 156) dX11_spells_132 (by decide) ?_
                          refine rj_iinc (pc := 156) dX11_spells_156 (Nat.le_of_ble_eq_true rfl) rfl ?_
                          dsimp only [lsSt, List.set, mLs, mEnt]
                          refine r_goto (pc := 159) (tgt := 10) dX11_spells_159 (by decide) ?_
                          rw [show ((p : Int) + 1) = ((p + 1 : Nat) : Int) by omega]
                          rw [spS, if_neg (fun g => c_40 g.1), if_pos ⟨c_59, by simpa using c_63, by omega, c_90⟩]
                          have y := ih (p + 1) false pap w _ (some (.int (J (pool p)))) (some (.int (J (b01 (48 ≤ pool p ∧ pool p ≤ 57))))) (some (.int (J 1))) (by omega) (by omega) (by omega) hB0
                          rw [show bz false = 0 from rfl] at y
                          exact y
                      · try simp only [b01_0, bz_0, Classical.not_not] at c_118
                        all_goals (first | exact absurd trivial ‹¬ True› | exact absurd c_59 c_113 | exact absurd c_106 c_63 | (exfalso; omega))
      · refine r_aload_n (pc := 43) dX11_spells_43 rfl (by first | rfl | exact isRefV_rf _) ?_
        refine r_iload (pc := 44) dX11_spells_44 rfl ?_
        refine r_callV1 (pc := 46) dX11_spells_46 qX11_numberAt kX11_171 vX11_numberAt (by exact isM.gx (by assumption)) rfl rfl (Nat.le_of_ble_eq_true rfl) (by have y := m_numberAt (G := G) (l := l) d hB0 hPo (p := p) (n := 20) (by omega) (by rw [if_pos c_40]; exact (hmin p (by omega) (by omega) c_40).1); exact y.deeper (by omega)) (fun v_46 h_46 q_46 => ?_)
        obtain ⟨rfl, rfl⟩ := q_46
        have rn := (hmin p (by omega) (by omega) c_40).2
        refine rj_if_ne (pc := 49) (tgt := 55) dX11_spells_49 (by decide) (by first | assumption | exact b01_r | exact bz_r | omega | (constructor <;> omega) | exact hM _ | exact hPo _ | exact hTa _ | exact hRo _) (fun c_49 => ?_) (fun c_49 => ?_)
        · try simp only [b01_0, bz_0, Classical.not_not] at c_49
          refine r_iload (pc := 55) dX11_spells_55 rfl ?_
          refine rj_bipush (pc := 57) dX11_spells_57 (by decide +kernel) ?_
          refine rj_icmp_ne (pc := 59) (tgt := 97) dX11_spells_59 (by decide) (by first | assumption | exact b01_r | exact bz_r | omega | (constructor <;> omega) | exact hM _ | exact hPo _ | exact hTa _ | exact hRo _) (by first | assumption | exact b01_r | exact bz_r | omega | (constructor <;> omega) | exact hM _ | exact hPo _ | exact hTa _ | exact hRo _) (fun c_59 => ?_) (fun c_59 => ?_)
          · refine rj_iconst (pc := 97) dX11_spells_97 ?_
            refine r_istore (pc := 98) dX11_spells_98 (Nat.le_of_ble_eq_true rfl) ?_
            dsimp only [lsSt, List.set, mLs, mEnt]
            refine r_iload (pc := 100) dX11_spells_100 rfl ?_
            refine rj_if_eq (pc := 102) (tgt := 125) dX11_spells_102 (by decide) (by first | assumption | exact b01_r | exact bz_r | omega | (constructor <;> omega) | exact hM _ | exact hPo _ | exact hTa _ | exact hRo _) (fun c_102 => ?_) (fun c_102 => ?_)
            · try simp only [b01_0, bz_0, Classical.not_not] at c_102
              refine rj_iconst (pc := 125) dX11_spells_125 ?_
              refine r_istore_n (pc := 126) dX11_spells_126 (Nat.le_of_ble_eq_true rfl) ?_
              dsimp only [lsSt, List.set, mLs, mEnt]
              refine r_iload (pc := 127) dX11_spells_127 rfl ?_
              refine rj_if_eq (pc := 129) (tgt := 135) dX11_spells_129 (by decide) (by first | assumption | exact b01_r | exact bz_r | omega | (constructor <;> omega) | exact hM _ | exact hPo _ | exact hTa _ | exact hRo _) (fun c_129 => ?_) (fun c_129 => ?_)
              · try simp only [b01_0, bz_0, Classical.not_not] at c_129
                refine r_aload_n (pc := 135) dX11_spells_135 rfl (by first | rfl | exact isRefV_rf _) ?_
                refine rm_getf (pc := 136) dX11_spells_136 fX11_33 (by assumption) rfl ?_
                refine r_aload_n (pc := 139) dX11_spells_139 rfl (by first | rfl | exact isRefV_rf _) ?_
                refine rm_getf (pc := 140) dX11_spells_140 fX11_298 (by assumption) rfl ?_
                refine r_iload (pc := 143) dX11_spells_143 rfl ?_
                first | refine rm_iast6 (pc := 145) (j := w) dX11_spells_145 (by assumption) (by first | assumption | exact b01_r | exact bz_r | omega | (constructor <;> omega) | exact hM _ | exact hPo _ | exact hTa _ | exact hRo _) (by first | assumption | exact b01_r | exact bz_r | omega | (constructor <;> omega) | exact hM _ | exact hPo _ | exact hTa _ | exact hRo _) (by first | assumption | exact b01_r | exact bz_r | omega | (constructor <;> omega) | exact hM _ | exact hPo _ | exact hTa _ | exact hRo _) (by omega) (fun h_145 hB_145 hS_145 => ?_)
                refine r_aload_n (pc := 146) dX11_spells_146 rfl (by first | rfl | exact isRefV_rf _) ?_
                refine r_dup (pc := 147) dX11_spells_147 (by first | rfl | (cases ‹Option Nat› <;> rfl)) ?_
                refine rm_getf (pc := 148) dX11_spells_148 fX11_298 (by assumption) rfl ?_
                refine rj_iconst (pc := 151) dX11_spells_151 ?_
                refine rj_iadd (pc := 152) dX11_spells_152 ?_
                refine rm_putf (pc := 153) dX11_spells_153 fX11_298 (by assumption) rfl rfl (Nat.le_of_ble_eq_true rfl) (fun h_153 hB_153 hS_153 => ?_)
                dsimp only [List.set, mFs] at hB_153
                refine rj_iinc (pc := 156) dX11_spells_156 (Nat.le_of_ble_eq_true rfl) rfl ?_
                dsimp only [lsSt, List.set, mLs, mEnt]
                refine r_goto (pc := 159) (tgt := 10) dX11_spells_159 (by decide) ?_
                rw [show ((p : Int) + 1) = ((p + 1 : Nat) : Int) by omega]
                rw [spS, if_neg (fun g => c_49 g.2), if_neg (fun g => c_59 g.1)]
                rw [show decide (dgP (pool p)) = false from decide_eq_false c_102]
                have y := ih (p + 1) false (updI pap w (pool p)) (w + 1) _ (some (.int (J (pool p)))) (some (.int (J (b01 (48 ≤ pool p ∧ pool p ≤ 57))))) (some (.int (J 0))) (by omega) (by omega) (by omega) (by rw [show ((w + 1 : Nat) : Int) = (w : Int) + 1 by omega]; exact hB_153)
                rw [show bz false = 0 from rfl] at y
                exact y.mono (fun v h' q => ⟨q.1, q.2.1, (hS_145.trans hS_153).trans q.2.2⟩)
              · try simp only [b01_0, bz_0, Classical.not_not] at c_129
                all_goals (first | exact absurd trivial ‹¬ True› | exact absurd c_59 c_113 | exact absurd c_106 c_63 | (exfalso; omega))
            · try simp only [b01_0, bz_0, Classical.not_not] at c_102
              refine r_iload_n (pc := 105) dX11_spells_105 rfl ?_
              refine rj_if_ne (pc := 106) (tgt := 121) dX11_spells_106 (by decide) (by first | assumption | exact b01_r | exact bz_r | omega | (constructor <;> omega) | exact hM _ | exact hPo _ | exact hTa _ | exact hRo _) (fun c_106 => ?_) (fun c_106 => ?_)
              · try simp only [b01_0, bz_0, Classical.not_not] at c_106
                refine rj_iconst (pc := 121) dX11_spells_121 ?_
                refine r_goto (pc := 122) (tgt := 126) dX11_spells_122 (by decide) ?_
                refine r_istore_n (pc := 126) dX11_spells_126 (Nat.le_of_ble_eq_true rfl) ?_
                dsimp only [lsSt, List.set, mLs, mEnt]
                refine r_iload (pc := 127) dX11_spells_127 rfl ?_
                refine rj_if_eq (pc := 129) (tgt := 135) dX11_spells_129 (by decide) (by first | assumption | exact b01_r | exact bz_r | omega | (constructor <;> omega) | exact hM _ | exact hPo _ | exact hTa _ | exact hRo _) (fun c_129 => ?_) (fun c_129 => ?_)
                · try simp only [b01_0, bz_0, Classical.not_not] at c_129
                  refine r_aload_n (pc := 135) dX11_spells_135 rfl (by first | rfl | exact isRefV_rf _) ?_
                  refine rm_getf (pc := 136) dX11_spells_136 fX11_33 (by assumption) rfl ?_
                  refine r_aload_n (pc := 139) dX11_spells_139 rfl (by first | rfl | exact isRefV_rf _) ?_
                  refine rm_getf (pc := 140) dX11_spells_140 fX11_298 (by assumption) rfl ?_
                  refine r_iload (pc := 143) dX11_spells_143 rfl ?_
                  first | refine rm_iast6 (pc := 145) (j := w) dX11_spells_145 (by assumption) (by first | assumption | exact b01_r | exact bz_r | omega | (constructor <;> omega) | exact hM _ | exact hPo _ | exact hTa _ | exact hRo _) (by first | assumption | exact b01_r | exact bz_r | omega | (constructor <;> omega) | exact hM _ | exact hPo _ | exact hTa _ | exact hRo _) (by first | assumption | exact b01_r | exact bz_r | omega | (constructor <;> omega) | exact hM _ | exact hPo _ | exact hTa _ | exact hRo _) (by omega) (fun h_145 hB_145 hS_145 => ?_)
                  refine r_aload_n (pc := 146) dX11_spells_146 rfl (by first | rfl | exact isRefV_rf _) ?_
                  refine r_dup (pc := 147) dX11_spells_147 (by first | rfl | (cases ‹Option Nat› <;> rfl)) ?_
                  refine rm_getf (pc := 148) dX11_spells_148 fX11_298 (by assumption) rfl ?_
                  refine rj_iconst (pc := 151) dX11_spells_151 ?_
                  refine rj_iadd (pc := 152) dX11_spells_152 ?_
                  refine rm_putf (pc := 153) dX11_spells_153 fX11_298 (by assumption) rfl rfl (Nat.le_of_ble_eq_true rfl) (fun h_153 hB_153 hS_153 => ?_)
                  dsimp only [List.set, mFs] at hB_153
                  refine rj_iinc (pc := 156) dX11_spells_156 (Nat.le_of_ble_eq_true rfl) rfl ?_
                  dsimp only [lsSt, List.set, mLs, mEnt]
                  refine r_goto (pc := 159) (tgt := 10) dX11_spells_159 (by decide) ?_
                  rw [show ((p : Int) + 1) = ((p + 1 : Nat) : Int) by omega]
                  rw [spS, if_neg (fun g => c_49 g.2), if_neg (fun g => c_59 g.1)]
                  rw [show decide (dgP (pool p)) = true from decide_eq_true c_102]
                  have y := ih (p + 1) true (updI pap w (pool p)) (w + 1) _ (some (.int (J (pool p)))) (some (.int (J (b01 (48 ≤ pool p ∧ pool p ≤ 57))))) (some (.int (J 0))) (by omega) (by omega) (by omega) (by rw [show ((w + 1 : Nat) : Int) = (w : Int) + 1 by omega]; exact hB_153)
                  rw [show bz true = 1 from rfl] at y
                  exact y.mono (fun v h' q => ⟨q.1, q.2.1, (hS_145.trans hS_153).trans q.2.2⟩)
                · try simp only [b01_0, bz_0, Classical.not_not] at c_129
                  all_goals (first | exact absurd trivial ‹¬ True› | exact absurd c_59 c_113 | exact absurd c_106 c_63 | (exfalso; omega))
              · try simp only [b01_0, bz_0, Classical.not_not] at c_106
                refine r_iload (pc := 109) dX11_spells_109 rfl ?_
                refine rj_bipush (pc := 111) dX11_spells_111 (by decide +kernel) ?_
                refine rj_icmp_ne (pc := 113) (tgt := 121) dX11_spells_113 (by decide) (by first | assumption | exact b01_r | exact bz_r | omega | (constructor <;> omega) | exact hM _ | exact hPo _ | exact hTa _ | exact hRo _) (by first | assumption | exact b01_r | exact bz_r | omega | (constructor <;> omega) | exact hM _ | exact hPo _ | exact hTa _ | exact hRo _) (fun c_113 => ?_) (fun c_113 => ?_)
                · refine rj_iconst (pc := 121) dX11_spells_121 ?_
                  refine r_goto (pc := 122) (tgt := 126) dX11_spells_122 (by decide) ?_
                  refine r_istore_n (pc := 126) dX11_spells_126 (Nat.le_of_ble_eq_true rfl) ?_
                  dsimp only [lsSt, List.set, mLs, mEnt]
                  refine r_iload (pc := 127) dX11_spells_127 rfl ?_
                  refine rj_if_eq (pc := 129) (tgt := 135) dX11_spells_129 (by decide) (by first | assumption | exact b01_r | exact bz_r | omega | (constructor <;> omega) | exact hM _ | exact hPo _ | exact hTa _ | exact hRo _) (fun c_129 => ?_) (fun c_129 => ?_)
                  · try simp only [b01_0, bz_0, Classical.not_not] at c_129
                    refine r_aload_n (pc := 135) dX11_spells_135 rfl (by first | rfl | exact isRefV_rf _) ?_
                    refine rm_getf (pc := 136) dX11_spells_136 fX11_33 (by assumption) rfl ?_
                    refine r_aload_n (pc := 139) dX11_spells_139 rfl (by first | rfl | exact isRefV_rf _) ?_
                    refine rm_getf (pc := 140) dX11_spells_140 fX11_298 (by assumption) rfl ?_
                    refine r_iload (pc := 143) dX11_spells_143 rfl ?_
                    first | refine rm_iast6 (pc := 145) (j := w) dX11_spells_145 (by assumption) (by first | assumption | exact b01_r | exact bz_r | omega | (constructor <;> omega) | exact hM _ | exact hPo _ | exact hTa _ | exact hRo _) (by first | assumption | exact b01_r | exact bz_r | omega | (constructor <;> omega) | exact hM _ | exact hPo _ | exact hTa _ | exact hRo _) (by first | assumption | exact b01_r | exact bz_r | omega | (constructor <;> omega) | exact hM _ | exact hPo _ | exact hTa _ | exact hRo _) (by omega) (fun h_145 hB_145 hS_145 => ?_)
                    refine r_aload_n (pc := 146) dX11_spells_146 rfl (by first | rfl | exact isRefV_rf _) ?_
                    refine r_dup (pc := 147) dX11_spells_147 (by first | rfl | (cases ‹Option Nat› <;> rfl)) ?_
                    refine rm_getf (pc := 148) dX11_spells_148 fX11_298 (by assumption) rfl ?_
                    refine rj_iconst (pc := 151) dX11_spells_151 ?_
                    refine rj_iadd (pc := 152) dX11_spells_152 ?_
                    refine rm_putf (pc := 153) dX11_spells_153 fX11_298 (by assumption) rfl rfl (Nat.le_of_ble_eq_true rfl) (fun h_153 hB_153 hS_153 => ?_)
                    dsimp only [List.set, mFs] at hB_153
                    refine rj_iinc (pc := 156) dX11_spells_156 (Nat.le_of_ble_eq_true rfl) rfl ?_
                    dsimp only [lsSt, List.set, mLs, mEnt]
                    refine r_goto (pc := 159) (tgt := 10) dX11_spells_159 (by decide) ?_
                    rw [show ((p : Int) + 1) = ((p + 1 : Nat) : Int) by omega]
                    rw [spS, if_neg (fun g => c_49 g.2), if_neg (fun g => c_59 g.1)]
                    rw [show decide (dgP (pool p)) = true from decide_eq_true c_102]
                    have y := ih (p + 1) true (updI pap w (pool p)) (w + 1) _ (some (.int (J (pool p)))) (some (.int (J (b01 (48 ≤ pool p ∧ pool p ≤ 57))))) (some (.int (J 0))) (by omega) (by omega) (by omega) (by rw [show ((w + 1 : Nat) : Int) = (w : Int) + 1 by omega]; exact hB_153)
                    rw [show bz true = 1 from rfl] at y
                    exact y.mono (fun v h' q => ⟨q.1, q.2.1, (hS_145.trans hS_153).trans q.2.2⟩)
                  · try simp only [b01_0, bz_0, Classical.not_not] at c_129
                    all_goals (first | exact absurd trivial ‹¬ True› | exact absurd c_59 c_113 | exact absurd c_106 c_63 | (exfalso; omega))
                · refine r_iload (pc := 116) dX11_spells_116 rfl ?_
                  refine rj_if_ne (pc := 118) (tgt := 125) dX11_spells_118 (by decide) (by first | assumption | exact b01_r | exact bz_r | omega | (constructor <;> omega) | exact hM _ | exact hPo _ | exact hTa _ | exact hRo _) (fun c_118 => ?_) (fun c_118 => ?_)
                  · try simp only [b01_0, bz_0, Classical.not_not] at c_118
                    all_goals (first | exact absurd trivial ‹¬ True› | exact absurd c_59 c_113 | exact absurd c_106 c_63 | (exfalso; omega))
                  · try simp only [b01_0, bz_0, Classical.not_not] at c_118
                    refine rj_iconst (pc := 121) dX11_spells_121 ?_
                    refine r_goto (pc := 122) (tgt := 126) dX11_spells_122 (by decide) ?_
                    refine r_istore_n (pc := 126) dX11_spells_126 (Nat.le_of_ble_eq_true rfl) ?_
                    dsimp only [lsSt, List.set, mLs, mEnt]
                    refine r_iload (pc := 127) dX11_spells_127 rfl ?_
                    refine rj_if_eq (pc := 129) (tgt := 135) dX11_spells_129 (by decide) (by first | assumption | exact b01_r | exact bz_r | omega | (constructor <;> omega) | exact hM _ | exact hPo _ | exact hTa _ | exact hRo _) (fun c_129 => ?_) (fun c_129 => ?_)
                    · try simp only [b01_0, bz_0, Classical.not_not] at c_129
                      refine r_aload_n (pc := 135) dX11_spells_135 rfl (by first | rfl | exact isRefV_rf _) ?_
                      refine rm_getf (pc := 136) dX11_spells_136 fX11_33 (by assumption) rfl ?_
                      refine r_aload_n (pc := 139) dX11_spells_139 rfl (by first | rfl | exact isRefV_rf _) ?_
                      refine rm_getf (pc := 140) dX11_spells_140 fX11_298 (by assumption) rfl ?_
                      refine r_iload (pc := 143) dX11_spells_143 rfl ?_
                      first | refine rm_iast6 (pc := 145) (j := w) dX11_spells_145 (by assumption) (by first | assumption | exact b01_r | exact bz_r | omega | (constructor <;> omega) | exact hM _ | exact hPo _ | exact hTa _ | exact hRo _) (by first | assumption | exact b01_r | exact bz_r | omega | (constructor <;> omega) | exact hM _ | exact hPo _ | exact hTa _ | exact hRo _) (by first | assumption | exact b01_r | exact bz_r | omega | (constructor <;> omega) | exact hM _ | exact hPo _ | exact hTa _ | exact hRo _) (by omega) (fun h_145 hB_145 hS_145 => ?_)
                      refine r_aload_n (pc := 146) dX11_spells_146 rfl (by first | rfl | exact isRefV_rf _) ?_
                      refine r_dup (pc := 147) dX11_spells_147 (by first | rfl | (cases ‹Option Nat› <;> rfl)) ?_
                      refine rm_getf (pc := 148) dX11_spells_148 fX11_298 (by assumption) rfl ?_
                      refine rj_iconst (pc := 151) dX11_spells_151 ?_
                      refine rj_iadd (pc := 152) dX11_spells_152 ?_
                      refine rm_putf (pc := 153) dX11_spells_153 fX11_298 (by assumption) rfl rfl (Nat.le_of_ble_eq_true rfl) (fun h_153 hB_153 hS_153 => ?_)
                      dsimp only [List.set, mFs] at hB_153
                      refine rj_iinc (pc := 156) dX11_spells_156 (Nat.le_of_ble_eq_true rfl) rfl ?_
                      dsimp only [lsSt, List.set, mLs, mEnt]
                      refine r_goto (pc := 159) (tgt := 10) dX11_spells_159 (by decide) ?_
                      rw [show ((p : Int) + 1) = ((p + 1 : Nat) : Int) by omega]
                      rw [spS, if_neg (fun g => c_49 g.2), if_neg (fun g => c_59 g.1)]
                      rw [show decide (dgP (pool p)) = true from decide_eq_true c_102]
                      have y := ih (p + 1) true (updI pap w (pool p)) (w + 1) _ (some (.int (J (pool p)))) (some (.int (J (b01 (48 ≤ pool p ∧ pool p ≤ 57))))) (some (.int (J 0))) (by omega) (by omega) (by omega) (by rw [show ((w + 1 : Nat) : Int) = (w : Int) + 1 by omega]; exact hB_153)
                      rw [show bz true = 1 from rfl] at y
                      exact y.mono (fun v h' q => ⟨q.1, q.2.1, (hS_145.trans hS_153).trans q.2.2⟩)
                    · try simp only [b01_0, bz_0, Classical.not_not] at c_129
                      all_goals (first | exact absurd trivial ‹¬ True› | exact absurd c_59 c_113 | exact absurd c_106 c_63 | (exfalso; omega))
          · refine r_iload_n (pc := 62) dX11_spells_62 rfl ?_
            refine rj_if_ne (pc := 63) (tgt := 97) dX11_spells_63 (by decide) (by first | assumption | exact b01_r | exact bz_r | omega | (constructor <;> omega) | exact hM _ | exact hPo _ | exact hTa _ | exact hRo _) (fun c_63 => ?_) (fun c_63 => ?_)
            · try simp only [b01_0, bz_0, Classical.not_not] at c_63
              refine rj_iconst (pc := 97) dX11_spells_97 ?_
              refine r_istore (pc := 98) dX11_spells_98 (Nat.le_of_ble_eq_true rfl) ?_
              dsimp only [lsSt, List.set, mLs, mEnt]
              refine r_iload (pc := 100) dX11_spells_100 rfl ?_
              refine rj_if_eq (pc := 102) (tgt := 125) dX11_spells_102 (by decide) (by first | assumption | exact b01_r | exact bz_r | omega | (constructor <;> omega) | exact hM _ | exact hPo _ | exact hTa _ | exact hRo _) (fun c_102 => ?_) (fun c_102 => ?_)
              · try simp only [b01_0, bz_0, Classical.not_not] at c_102
                refine rj_iconst (pc := 125) dX11_spells_125 ?_
                refine r_istore_n (pc := 126) dX11_spells_126 (Nat.le_of_ble_eq_true rfl) ?_
                dsimp only [lsSt, List.set, mLs, mEnt]
                refine r_iload (pc := 127) dX11_spells_127 rfl ?_
                refine rj_if_eq (pc := 129) (tgt := 135) dX11_spells_129 (by decide) (by first | assumption | exact b01_r | exact bz_r | omega | (constructor <;> omega) | exact hM _ | exact hPo _ | exact hTa _ | exact hRo _) (fun c_129 => ?_) (fun c_129 => ?_)
                · try simp only [b01_0, bz_0, Classical.not_not] at c_129
                  refine r_aload_n (pc := 135) dX11_spells_135 rfl (by first | rfl | exact isRefV_rf _) ?_
                  refine rm_getf (pc := 136) dX11_spells_136 fX11_33 (by assumption) rfl ?_
                  refine r_aload_n (pc := 139) dX11_spells_139 rfl (by first | rfl | exact isRefV_rf _) ?_
                  refine rm_getf (pc := 140) dX11_spells_140 fX11_298 (by assumption) rfl ?_
                  refine r_iload (pc := 143) dX11_spells_143 rfl ?_
                  first | refine rm_iast6 (pc := 145) (j := w) dX11_spells_145 (by assumption) (by first | assumption | exact b01_r | exact bz_r | omega | (constructor <;> omega) | exact hM _ | exact hPo _ | exact hTa _ | exact hRo _) (by first | assumption | exact b01_r | exact bz_r | omega | (constructor <;> omega) | exact hM _ | exact hPo _ | exact hTa _ | exact hRo _) (by first | assumption | exact b01_r | exact bz_r | omega | (constructor <;> omega) | exact hM _ | exact hPo _ | exact hTa _ | exact hRo _) (by omega) (fun h_145 hB_145 hS_145 => ?_)
                  refine r_aload_n (pc := 146) dX11_spells_146 rfl (by first | rfl | exact isRefV_rf _) ?_
                  refine r_dup (pc := 147) dX11_spells_147 (by first | rfl | (cases ‹Option Nat› <;> rfl)) ?_
                  refine rm_getf (pc := 148) dX11_spells_148 fX11_298 (by assumption) rfl ?_
                  refine rj_iconst (pc := 151) dX11_spells_151 ?_
                  refine rj_iadd (pc := 152) dX11_spells_152 ?_
                  refine rm_putf (pc := 153) dX11_spells_153 fX11_298 (by assumption) rfl rfl (Nat.le_of_ble_eq_true rfl) (fun h_153 hB_153 hS_153 => ?_)
                  dsimp only [List.set, mFs] at hB_153
                  refine rj_iinc (pc := 156) dX11_spells_156 (Nat.le_of_ble_eq_true rfl) rfl ?_
                  dsimp only [lsSt, List.set, mLs, mEnt]
                  refine r_goto (pc := 159) (tgt := 10) dX11_spells_159 (by decide) ?_
                  rw [show ((p : Int) + 1) = ((p + 1 : Nat) : Int) by omega]
                  rw [spS, if_neg (fun g => c_49 g.2), if_neg (fun g => absurd g.2.1 (by simpa using c_63))]
                  rw [show decide (dgP (pool p)) = false from decide_eq_false c_102]
                  have y := ih (p + 1) false (updI pap w (pool p)) (w + 1) _ (some (.int (J (pool p)))) (some (.int (J (b01 (48 ≤ pool p ∧ pool p ≤ 57))))) (some (.int (J 0))) (by omega) (by omega) (by omega) (by rw [show ((w + 1 : Nat) : Int) = (w : Int) + 1 by omega]; exact hB_153)
                  rw [show bz false = 0 from rfl] at y
                  exact y.mono (fun v h' q => ⟨q.1, q.2.1, (hS_145.trans hS_153).trans q.2.2⟩)
                · try simp only [b01_0, bz_0, Classical.not_not] at c_129
                  all_goals (first | exact absurd trivial ‹¬ True› | exact absurd c_59 c_113 | exact absurd c_106 c_63 | (exfalso; omega))
              · try simp only [b01_0, bz_0, Classical.not_not] at c_102
                refine r_iload_n (pc := 105) dX11_spells_105 rfl ?_
                refine rj_if_ne (pc := 106) (tgt := 121) dX11_spells_106 (by decide) (by first | assumption | exact b01_r | exact bz_r | omega | (constructor <;> omega) | exact hM _ | exact hPo _ | exact hTa _ | exact hRo _) (fun c_106 => ?_) (fun c_106 => ?_)
                · try simp only [b01_0, bz_0, Classical.not_not] at c_106
                  refine rj_iconst (pc := 121) dX11_spells_121 ?_
                  refine r_goto (pc := 122) (tgt := 126) dX11_spells_122 (by decide) ?_
                  refine r_istore_n (pc := 126) dX11_spells_126 (Nat.le_of_ble_eq_true rfl) ?_
                  dsimp only [lsSt, List.set, mLs, mEnt]
                  refine r_iload (pc := 127) dX11_spells_127 rfl ?_
                  refine rj_if_eq (pc := 129) (tgt := 135) dX11_spells_129 (by decide) (by first | assumption | exact b01_r | exact bz_r | omega | (constructor <;> omega) | exact hM _ | exact hPo _ | exact hTa _ | exact hRo _) (fun c_129 => ?_) (fun c_129 => ?_)
                  · try simp only [b01_0, bz_0, Classical.not_not] at c_129
                    refine r_aload_n (pc := 135) dX11_spells_135 rfl (by first | rfl | exact isRefV_rf _) ?_
                    refine rm_getf (pc := 136) dX11_spells_136 fX11_33 (by assumption) rfl ?_
                    refine r_aload_n (pc := 139) dX11_spells_139 rfl (by first | rfl | exact isRefV_rf _) ?_
                    refine rm_getf (pc := 140) dX11_spells_140 fX11_298 (by assumption) rfl ?_
                    refine r_iload (pc := 143) dX11_spells_143 rfl ?_
                    first | refine rm_iast6 (pc := 145) (j := w) dX11_spells_145 (by assumption) (by first | assumption | exact b01_r | exact bz_r | omega | (constructor <;> omega) | exact hM _ | exact hPo _ | exact hTa _ | exact hRo _) (by first | assumption | exact b01_r | exact bz_r | omega | (constructor <;> omega) | exact hM _ | exact hPo _ | exact hTa _ | exact hRo _) (by first | assumption | exact b01_r | exact bz_r | omega | (constructor <;> omega) | exact hM _ | exact hPo _ | exact hTa _ | exact hRo _) (by omega) (fun h_145 hB_145 hS_145 => ?_)
                    refine r_aload_n (pc := 146) dX11_spells_146 rfl (by first | rfl | exact isRefV_rf _) ?_
                    refine r_dup (pc := 147) dX11_spells_147 (by first | rfl | (cases ‹Option Nat› <;> rfl)) ?_
                    refine rm_getf (pc := 148) dX11_spells_148 fX11_298 (by assumption) rfl ?_
                    refine rj_iconst (pc := 151) dX11_spells_151 ?_
                    refine rj_iadd (pc := 152) dX11_spells_152 ?_
                    refine rm_putf (pc := 153) dX11_spells_153 fX11_298 (by assumption) rfl rfl (Nat.le_of_ble_eq_true rfl) (fun h_153 hB_153 hS_153 => ?_)
                    dsimp only [List.set, mFs] at hB_153
                    refine rj_iinc (pc := 156) dX11_spells_156 (Nat.le_of_ble_eq_true rfl) rfl ?_
                    dsimp only [lsSt, List.set, mLs, mEnt]
                    refine r_goto (pc := 159) (tgt := 10) dX11_spells_159 (by decide) ?_
                    rw [show ((p : Int) + 1) = ((p + 1 : Nat) : Int) by omega]
                    rw [spS, if_neg (fun g => c_49 g.2), if_neg (fun g => absurd g.2.1 (by simpa using c_63))]
                    rw [show decide (dgP (pool p)) = true from decide_eq_true c_102]
                    have y := ih (p + 1) true (updI pap w (pool p)) (w + 1) _ (some (.int (J (pool p)))) (some (.int (J (b01 (48 ≤ pool p ∧ pool p ≤ 57))))) (some (.int (J 0))) (by omega) (by omega) (by omega) (by rw [show ((w + 1 : Nat) : Int) = (w : Int) + 1 by omega]; exact hB_153)
                    rw [show bz true = 1 from rfl] at y
                    exact y.mono (fun v h' q => ⟨q.1, q.2.1, (hS_145.trans hS_153).trans q.2.2⟩)
                  · try simp only [b01_0, bz_0, Classical.not_not] at c_129
                    all_goals (first | exact absurd trivial ‹¬ True› | exact absurd c_59 c_113 | exact absurd c_106 c_63 | (exfalso; omega))
                · try simp only [b01_0, bz_0, Classical.not_not] at c_106
                  refine r_iload (pc := 109) dX11_spells_109 rfl ?_
                  refine rj_bipush (pc := 111) dX11_spells_111 (by decide +kernel) ?_
                  refine rj_icmp_ne (pc := 113) (tgt := 121) dX11_spells_113 (by decide) (by first | assumption | exact b01_r | exact bz_r | omega | (constructor <;> omega) | exact hM _ | exact hPo _ | exact hTa _ | exact hRo _) (by first | assumption | exact b01_r | exact bz_r | omega | (constructor <;> omega) | exact hM _ | exact hPo _ | exact hTa _ | exact hRo _) (fun c_113 => ?_) (fun c_113 => ?_)
                  · refine rj_iconst (pc := 121) dX11_spells_121 ?_
                    refine r_goto (pc := 122) (tgt := 126) dX11_spells_122 (by decide) ?_
                    refine r_istore_n (pc := 126) dX11_spells_126 (Nat.le_of_ble_eq_true rfl) ?_
                    dsimp only [lsSt, List.set, mLs, mEnt]
                    refine r_iload (pc := 127) dX11_spells_127 rfl ?_
                    refine rj_if_eq (pc := 129) (tgt := 135) dX11_spells_129 (by decide) (by first | assumption | exact b01_r | exact bz_r | omega | (constructor <;> omega) | exact hM _ | exact hPo _ | exact hTa _ | exact hRo _) (fun c_129 => ?_) (fun c_129 => ?_)
                    · try simp only [b01_0, bz_0, Classical.not_not] at c_129
                      refine r_aload_n (pc := 135) dX11_spells_135 rfl (by first | rfl | exact isRefV_rf _) ?_
                      refine rm_getf (pc := 136) dX11_spells_136 fX11_33 (by assumption) rfl ?_
                      refine r_aload_n (pc := 139) dX11_spells_139 rfl (by first | rfl | exact isRefV_rf _) ?_
                      refine rm_getf (pc := 140) dX11_spells_140 fX11_298 (by assumption) rfl ?_
                      refine r_iload (pc := 143) dX11_spells_143 rfl ?_
                      first | refine rm_iast6 (pc := 145) (j := w) dX11_spells_145 (by assumption) (by first | assumption | exact b01_r | exact bz_r | omega | (constructor <;> omega) | exact hM _ | exact hPo _ | exact hTa _ | exact hRo _) (by first | assumption | exact b01_r | exact bz_r | omega | (constructor <;> omega) | exact hM _ | exact hPo _ | exact hTa _ | exact hRo _) (by first | assumption | exact b01_r | exact bz_r | omega | (constructor <;> omega) | exact hM _ | exact hPo _ | exact hTa _ | exact hRo _) (by omega) (fun h_145 hB_145 hS_145 => ?_)
                      refine r_aload_n (pc := 146) dX11_spells_146 rfl (by first | rfl | exact isRefV_rf _) ?_
                      refine r_dup (pc := 147) dX11_spells_147 (by first | rfl | (cases ‹Option Nat› <;> rfl)) ?_
                      refine rm_getf (pc := 148) dX11_spells_148 fX11_298 (by assumption) rfl ?_
                      refine rj_iconst (pc := 151) dX11_spells_151 ?_
                      refine rj_iadd (pc := 152) dX11_spells_152 ?_
                      refine rm_putf (pc := 153) dX11_spells_153 fX11_298 (by assumption) rfl rfl (Nat.le_of_ble_eq_true rfl) (fun h_153 hB_153 hS_153 => ?_)
                      dsimp only [List.set, mFs] at hB_153
                      refine rj_iinc (pc := 156) dX11_spells_156 (Nat.le_of_ble_eq_true rfl) rfl ?_
                      dsimp only [lsSt, List.set, mLs, mEnt]
                      refine r_goto (pc := 159) (tgt := 10) dX11_spells_159 (by decide) ?_
                      rw [show ((p : Int) + 1) = ((p + 1 : Nat) : Int) by omega]
                      rw [spS, if_neg (fun g => c_49 g.2), if_neg (fun g => absurd g.2.1 (by simpa using c_63))]
                      rw [show decide (dgP (pool p)) = true from decide_eq_true c_102]
                      have y := ih (p + 1) true (updI pap w (pool p)) (w + 1) _ (some (.int (J (pool p)))) (some (.int (J (b01 (48 ≤ pool p ∧ pool p ≤ 57))))) (some (.int (J 0))) (by omega) (by omega) (by omega) (by rw [show ((w + 1 : Nat) : Int) = (w : Int) + 1 by omega]; exact hB_153)
                      rw [show bz true = 1 from rfl] at y
                      exact y.mono (fun v h' q => ⟨q.1, q.2.1, (hS_145.trans hS_153).trans q.2.2⟩)
                    · try simp only [b01_0, bz_0, Classical.not_not] at c_129
                      all_goals (first | exact absurd trivial ‹¬ True› | exact absurd c_59 c_113 | exact absurd c_106 c_63 | (exfalso; omega))
                  · refine r_iload (pc := 116) dX11_spells_116 rfl ?_
                    refine rj_if_ne (pc := 118) (tgt := 125) dX11_spells_118 (by decide) (by first | assumption | exact b01_r | exact bz_r | omega | (constructor <;> omega) | exact hM _ | exact hPo _ | exact hTa _ | exact hRo _) (fun c_118 => ?_) (fun c_118 => ?_)
                    · try simp only [b01_0, bz_0, Classical.not_not] at c_118
                      all_goals (first | exact absurd trivial ‹¬ True› | exact absurd c_59 c_113 | exact absurd c_106 c_63 | (exfalso; omega))
                    · try simp only [b01_0, bz_0, Classical.not_not] at c_118
                      refine rj_iconst (pc := 121) dX11_spells_121 ?_
                      refine r_goto (pc := 122) (tgt := 126) dX11_spells_122 (by decide) ?_
                      refine r_istore_n (pc := 126) dX11_spells_126 (Nat.le_of_ble_eq_true rfl) ?_
                      dsimp only [lsSt, List.set, mLs, mEnt]
                      refine r_iload (pc := 127) dX11_spells_127 rfl ?_
                      refine rj_if_eq (pc := 129) (tgt := 135) dX11_spells_129 (by decide) (by first | assumption | exact b01_r | exact bz_r | omega | (constructor <;> omega) | exact hM _ | exact hPo _ | exact hTa _ | exact hRo _) (fun c_129 => ?_) (fun c_129 => ?_)
                      · try simp only [b01_0, bz_0, Classical.not_not] at c_129
                        refine r_aload_n (pc := 135) dX11_spells_135 rfl (by first | rfl | exact isRefV_rf _) ?_
                        refine rm_getf (pc := 136) dX11_spells_136 fX11_33 (by assumption) rfl ?_
                        refine r_aload_n (pc := 139) dX11_spells_139 rfl (by first | rfl | exact isRefV_rf _) ?_
                        refine rm_getf (pc := 140) dX11_spells_140 fX11_298 (by assumption) rfl ?_
                        refine r_iload (pc := 143) dX11_spells_143 rfl ?_
                        first | refine rm_iast6 (pc := 145) (j := w) dX11_spells_145 (by assumption) (by first | assumption | exact b01_r | exact bz_r | omega | (constructor <;> omega) | exact hM _ | exact hPo _ | exact hTa _ | exact hRo _) (by first | assumption | exact b01_r | exact bz_r | omega | (constructor <;> omega) | exact hM _ | exact hPo _ | exact hTa _ | exact hRo _) (by first | assumption | exact b01_r | exact bz_r | omega | (constructor <;> omega) | exact hM _ | exact hPo _ | exact hTa _ | exact hRo _) (by omega) (fun h_145 hB_145 hS_145 => ?_)
                        refine r_aload_n (pc := 146) dX11_spells_146 rfl (by first | rfl | exact isRefV_rf _) ?_
                        refine r_dup (pc := 147) dX11_spells_147 (by first | rfl | (cases ‹Option Nat› <;> rfl)) ?_
                        refine rm_getf (pc := 148) dX11_spells_148 fX11_298 (by assumption) rfl ?_
                        refine rj_iconst (pc := 151) dX11_spells_151 ?_
                        refine rj_iadd (pc := 152) dX11_spells_152 ?_
                        refine rm_putf (pc := 153) dX11_spells_153 fX11_298 (by assumption) rfl rfl (Nat.le_of_ble_eq_true rfl) (fun h_153 hB_153 hS_153 => ?_)
                        dsimp only [List.set, mFs] at hB_153
                        refine rj_iinc (pc := 156) dX11_spells_156 (Nat.le_of_ble_eq_true rfl) rfl ?_
                        dsimp only [lsSt, List.set, mLs, mEnt]
                        refine r_goto (pc := 159) (tgt := 10) dX11_spells_159 (by decide) ?_
                        rw [show ((p : Int) + 1) = ((p + 1 : Nat) : Int) by omega]
                        rw [spS, if_neg (fun g => c_49 g.2), if_neg (fun g => absurd g.2.1 (by simpa using c_63))]
                        rw [show decide (dgP (pool p)) = true from decide_eq_true c_102]
                        have y := ih (p + 1) true (updI pap w (pool p)) (w + 1) _ (some (.int (J (pool p)))) (some (.int (J (b01 (48 ≤ pool p ∧ pool p ≤ 57))))) (some (.int (J 0))) (by omega) (by omega) (by omega) (by rw [show ((w + 1 : Nat) : Int) = (w : Int) + 1 by omega]; exact hB_153)
                        rw [show bz true = 1 from rfl] at y
                        exact y.mono (fun v h' q => ⟨q.1, q.2.1, (hS_145.trans hS_153).trans q.2.2⟩)
                      · try simp only [b01_0, bz_0, Classical.not_not] at c_129
                        all_goals (first | exact absurd trivial ‹¬ True› | exact absurd c_59 c_113 | exact absurd c_106 c_63 | (exfalso; omega))
            · try simp only [b01_0, bz_0, Classical.not_not] at c_63
              refine r_iload (pc := 66) dX11_spells_66 rfl ?_
              refine rj_iconst (pc := 68) dX11_spells_68 ?_
              refine rj_iadd (pc := 69) dX11_spells_69 ?_
              refine r_iload_n (pc := 70) dX11_spells_70 rfl ?_
              refine rj_icmp_ge (pc := 71) (tgt := 97) dX11_spells_71 (by decide) (by first | assumption | exact b01_r | exact bz_r | omega | (constructor <;> omega) | exact hM _ | exact hPo _ | exact hTa _ | exact hRo _) (by first | assumption | exact b01_r | exact bz_r | omega | (constructor <;> omega) | exact hM _ | exact hPo _ | exact hTa _ | exact hRo _) (fun c_71 => ?_) (fun c_71 => ?_)
              · refine rj_iconst (pc := 97) dX11_spells_97 ?_
                refine r_istore (pc := 98) dX11_spells_98 (Nat.le_of_ble_eq_true rfl) ?_
                dsimp only [lsSt, List.set, mLs, mEnt]
                refine r_iload (pc := 100) dX11_spells_100 rfl ?_
                refine rj_if_eq (pc := 102) (tgt := 125) dX11_spells_102 (by decide) (by first | assumption | exact b01_r | exact bz_r | omega | (constructor <;> omega) | exact hM _ | exact hPo _ | exact hTa _ | exact hRo _) (fun c_102 => ?_) (fun c_102 => ?_)
                · try simp only [b01_0, bz_0, Classical.not_not] at c_102
                  refine rj_iconst (pc := 125) dX11_spells_125 ?_
                  refine r_istore_n (pc := 126) dX11_spells_126 (Nat.le_of_ble_eq_true rfl) ?_
                  dsimp only [lsSt, List.set, mLs, mEnt]
                  refine r_iload (pc := 127) dX11_spells_127 rfl ?_
                  refine rj_if_eq (pc := 129) (tgt := 135) dX11_spells_129 (by decide) (by first | assumption | exact b01_r | exact bz_r | omega | (constructor <;> omega) | exact hM _ | exact hPo _ | exact hTa _ | exact hRo _) (fun c_129 => ?_) (fun c_129 => ?_)
                  · try simp only [b01_0, bz_0, Classical.not_not] at c_129
                    refine r_aload_n (pc := 135) dX11_spells_135 rfl (by first | rfl | exact isRefV_rf _) ?_
                    refine rm_getf (pc := 136) dX11_spells_136 fX11_33 (by assumption) rfl ?_
                    refine r_aload_n (pc := 139) dX11_spells_139 rfl (by first | rfl | exact isRefV_rf _) ?_
                    refine rm_getf (pc := 140) dX11_spells_140 fX11_298 (by assumption) rfl ?_
                    refine r_iload (pc := 143) dX11_spells_143 rfl ?_
                    first | refine rm_iast6 (pc := 145) (j := w) dX11_spells_145 (by assumption) (by first | assumption | exact b01_r | exact bz_r | omega | (constructor <;> omega) | exact hM _ | exact hPo _ | exact hTa _ | exact hRo _) (by first | assumption | exact b01_r | exact bz_r | omega | (constructor <;> omega) | exact hM _ | exact hPo _ | exact hTa _ | exact hRo _) (by first | assumption | exact b01_r | exact bz_r | omega | (constructor <;> omega) | exact hM _ | exact hPo _ | exact hTa _ | exact hRo _) (by omega) (fun h_145 hB_145 hS_145 => ?_)
                    refine r_aload_n (pc := 146) dX11_spells_146 rfl (by first | rfl | exact isRefV_rf _) ?_
                    refine r_dup (pc := 147) dX11_spells_147 (by first | rfl | (cases ‹Option Nat› <;> rfl)) ?_
                    refine rm_getf (pc := 148) dX11_spells_148 fX11_298 (by assumption) rfl ?_
                    refine rj_iconst (pc := 151) dX11_spells_151 ?_
                    refine rj_iadd (pc := 152) dX11_spells_152 ?_
                    refine rm_putf (pc := 153) dX11_spells_153 fX11_298 (by assumption) rfl rfl (Nat.le_of_ble_eq_true rfl) (fun h_153 hB_153 hS_153 => ?_)
                    dsimp only [List.set, mFs] at hB_153
                    refine rj_iinc (pc := 156) dX11_spells_156 (Nat.le_of_ble_eq_true rfl) rfl ?_
                    dsimp only [lsSt, List.set, mLs, mEnt]
                    refine r_goto (pc := 159) (tgt := 10) dX11_spells_159 (by decide) ?_
                    rw [show ((p : Int) + 1) = ((p + 1 : Nat) : Int) by omega]
                    rw [spS, if_neg (fun g => c_49 g.2), if_neg (fun g => absurd g.2.2.1 (by omega))]
                    rw [show decide (dgP (pool p)) = false from decide_eq_false c_102]
                    have y := ih (p + 1) false (updI pap w (pool p)) (w + 1) _ (some (.int (J (pool p)))) (some (.int (J (b01 (48 ≤ pool p ∧ pool p ≤ 57))))) (some (.int (J 0))) (by omega) (by omega) (by omega) (by rw [show ((w + 1 : Nat) : Int) = (w : Int) + 1 by omega]; exact hB_153)
                    rw [show bz false = 0 from rfl] at y
                    exact y.mono (fun v h' q => ⟨q.1, q.2.1, (hS_145.trans hS_153).trans q.2.2⟩)
                  · try simp only [b01_0, bz_0, Classical.not_not] at c_129
                    all_goals (first | exact absurd trivial ‹¬ True› | exact absurd c_59 c_113 | exact absurd c_106 c_63 | (exfalso; omega))
                · try simp only [b01_0, bz_0, Classical.not_not] at c_102
                  refine r_iload_n (pc := 105) dX11_spells_105 rfl ?_
                  refine rj_if_ne (pc := 106) (tgt := 121) dX11_spells_106 (by decide) (by first | assumption | exact b01_r | exact bz_r | omega | (constructor <;> omega) | exact hM _ | exact hPo _ | exact hTa _ | exact hRo _) (fun c_106 => ?_) (fun c_106 => ?_)
                  · try simp only [b01_0, bz_0, Classical.not_not] at c_106
                    refine rj_iconst (pc := 121) dX11_spells_121 ?_
                    refine r_goto (pc := 122) (tgt := 126) dX11_spells_122 (by decide) ?_
                    refine r_istore_n (pc := 126) dX11_spells_126 (Nat.le_of_ble_eq_true rfl) ?_
                    dsimp only [lsSt, List.set, mLs, mEnt]
                    refine r_iload (pc := 127) dX11_spells_127 rfl ?_
                    refine rj_if_eq (pc := 129) (tgt := 135) dX11_spells_129 (by decide) (by first | assumption | exact b01_r | exact bz_r | omega | (constructor <;> omega) | exact hM _ | exact hPo _ | exact hTa _ | exact hRo _) (fun c_129 => ?_) (fun c_129 => ?_)
                    · try simp only [b01_0, bz_0, Classical.not_not] at c_129
                      refine r_aload_n (pc := 135) dX11_spells_135 rfl (by first | rfl | exact isRefV_rf _) ?_
                      refine rm_getf (pc := 136) dX11_spells_136 fX11_33 (by assumption) rfl ?_
                      refine r_aload_n (pc := 139) dX11_spells_139 rfl (by first | rfl | exact isRefV_rf _) ?_
                      refine rm_getf (pc := 140) dX11_spells_140 fX11_298 (by assumption) rfl ?_
                      refine r_iload (pc := 143) dX11_spells_143 rfl ?_
                      first | refine rm_iast6 (pc := 145) (j := w) dX11_spells_145 (by assumption) (by first | assumption | exact b01_r | exact bz_r | omega | (constructor <;> omega) | exact hM _ | exact hPo _ | exact hTa _ | exact hRo _) (by first | assumption | exact b01_r | exact bz_r | omega | (constructor <;> omega) | exact hM _ | exact hPo _ | exact hTa _ | exact hRo _) (by first | assumption | exact b01_r | exact bz_r | omega | (constructor <;> omega) | exact hM _ | exact hPo _ | exact hTa _ | exact hRo _) (by omega) (fun h_145 hB_145 hS_145 => ?_)
                      refine r_aload_n (pc := 146) dX11_spells_146 rfl (by first | rfl | exact isRefV_rf _) ?_
                      refine r_dup (pc := 147) dX11_spells_147 (by first | rfl | (cases ‹Option Nat› <;> rfl)) ?_
                      refine rm_getf (pc := 148) dX11_spells_148 fX11_298 (by assumption) rfl ?_
                      refine rj_iconst (pc := 151) dX11_spells_151 ?_
                      refine rj_iadd (pc := 152) dX11_spells_152 ?_
                      refine rm_putf (pc := 153) dX11_spells_153 fX11_298 (by assumption) rfl rfl (Nat.le_of_ble_eq_true rfl) (fun h_153 hB_153 hS_153 => ?_)
                      dsimp only [List.set, mFs] at hB_153
                      refine rj_iinc (pc := 156) dX11_spells_156 (Nat.le_of_ble_eq_true rfl) rfl ?_
                      dsimp only [lsSt, List.set, mLs, mEnt]
                      refine r_goto (pc := 159) (tgt := 10) dX11_spells_159 (by decide) ?_
                      rw [show ((p : Int) + 1) = ((p + 1 : Nat) : Int) by omega]
                      rw [spS, if_neg (fun g => c_49 g.2), if_neg (fun g => absurd g.2.2.1 (by omega))]
                      rw [show decide (dgP (pool p)) = true from decide_eq_true c_102]
                      have y := ih (p + 1) true (updI pap w (pool p)) (w + 1) _ (some (.int (J (pool p)))) (some (.int (J (b01 (48 ≤ pool p ∧ pool p ≤ 57))))) (some (.int (J 0))) (by omega) (by omega) (by omega) (by rw [show ((w + 1 : Nat) : Int) = (w : Int) + 1 by omega]; exact hB_153)
                      rw [show bz true = 1 from rfl] at y
                      exact y.mono (fun v h' q => ⟨q.1, q.2.1, (hS_145.trans hS_153).trans q.2.2⟩)
                    · try simp only [b01_0, bz_0, Classical.not_not] at c_129
                      all_goals (first | exact absurd trivial ‹¬ True› | exact absurd c_59 c_113 | exact absurd c_106 c_63 | (exfalso; omega))
                  · try simp only [b01_0, bz_0, Classical.not_not] at c_106
                    refine r_iload (pc := 109) dX11_spells_109 rfl ?_
                    refine rj_bipush (pc := 111) dX11_spells_111 (by decide +kernel) ?_
                    refine rj_icmp_ne (pc := 113) (tgt := 121) dX11_spells_113 (by decide) (by first | assumption | exact b01_r | exact bz_r | omega | (constructor <;> omega) | exact hM _ | exact hPo _ | exact hTa _ | exact hRo _) (by first | assumption | exact b01_r | exact bz_r | omega | (constructor <;> omega) | exact hM _ | exact hPo _ | exact hTa _ | exact hRo _) (fun c_113 => ?_) (fun c_113 => ?_)
                    · refine rj_iconst (pc := 121) dX11_spells_121 ?_
                      refine r_goto (pc := 122) (tgt := 126) dX11_spells_122 (by decide) ?_
                      refine r_istore_n (pc := 126) dX11_spells_126 (Nat.le_of_ble_eq_true rfl) ?_
                      dsimp only [lsSt, List.set, mLs, mEnt]
                      refine r_iload (pc := 127) dX11_spells_127 rfl ?_
                      refine rj_if_eq (pc := 129) (tgt := 135) dX11_spells_129 (by decide) (by first | assumption | exact b01_r | exact bz_r | omega | (constructor <;> omega) | exact hM _ | exact hPo _ | exact hTa _ | exact hRo _) (fun c_129 => ?_) (fun c_129 => ?_)
                      · try simp only [b01_0, bz_0, Classical.not_not] at c_129
                        refine r_aload_n (pc := 135) dX11_spells_135 rfl (by first | rfl | exact isRefV_rf _) ?_
                        refine rm_getf (pc := 136) dX11_spells_136 fX11_33 (by assumption) rfl ?_
                        refine r_aload_n (pc := 139) dX11_spells_139 rfl (by first | rfl | exact isRefV_rf _) ?_
                        refine rm_getf (pc := 140) dX11_spells_140 fX11_298 (by assumption) rfl ?_
                        refine r_iload (pc := 143) dX11_spells_143 rfl ?_
                        first | refine rm_iast6 (pc := 145) (j := w) dX11_spells_145 (by assumption) (by first | assumption | exact b01_r | exact bz_r | omega | (constructor <;> omega) | exact hM _ | exact hPo _ | exact hTa _ | exact hRo _) (by first | assumption | exact b01_r | exact bz_r | omega | (constructor <;> omega) | exact hM _ | exact hPo _ | exact hTa _ | exact hRo _) (by first | assumption | exact b01_r | exact bz_r | omega | (constructor <;> omega) | exact hM _ | exact hPo _ | exact hTa _ | exact hRo _) (by omega) (fun h_145 hB_145 hS_145 => ?_)
                        refine r_aload_n (pc := 146) dX11_spells_146 rfl (by first | rfl | exact isRefV_rf _) ?_
                        refine r_dup (pc := 147) dX11_spells_147 (by first | rfl | (cases ‹Option Nat› <;> rfl)) ?_
                        refine rm_getf (pc := 148) dX11_spells_148 fX11_298 (by assumption) rfl ?_
                        refine rj_iconst (pc := 151) dX11_spells_151 ?_
                        refine rj_iadd (pc := 152) dX11_spells_152 ?_
                        refine rm_putf (pc := 153) dX11_spells_153 fX11_298 (by assumption) rfl rfl (Nat.le_of_ble_eq_true rfl) (fun h_153 hB_153 hS_153 => ?_)
                        dsimp only [List.set, mFs] at hB_153
                        refine rj_iinc (pc := 156) dX11_spells_156 (Nat.le_of_ble_eq_true rfl) rfl ?_
                        dsimp only [lsSt, List.set, mLs, mEnt]
                        refine r_goto (pc := 159) (tgt := 10) dX11_spells_159 (by decide) ?_
                        rw [show ((p : Int) + 1) = ((p + 1 : Nat) : Int) by omega]
                        rw [spS, if_neg (fun g => c_49 g.2), if_neg (fun g => absurd g.2.2.1 (by omega))]
                        rw [show decide (dgP (pool p)) = true from decide_eq_true c_102]
                        have y := ih (p + 1) true (updI pap w (pool p)) (w + 1) _ (some (.int (J (pool p)))) (some (.int (J (b01 (48 ≤ pool p ∧ pool p ≤ 57))))) (some (.int (J 0))) (by omega) (by omega) (by omega) (by rw [show ((w + 1 : Nat) : Int) = (w : Int) + 1 by omega]; exact hB_153)
                        rw [show bz true = 1 from rfl] at y
                        exact y.mono (fun v h' q => ⟨q.1, q.2.1, (hS_145.trans hS_153).trans q.2.2⟩)
                      · try simp only [b01_0, bz_0, Classical.not_not] at c_129
                        all_goals (first | exact absurd trivial ‹¬ True› | exact absurd c_59 c_113 | exact absurd c_106 c_63 | (exfalso; omega))
                    · refine r_iload (pc := 116) dX11_spells_116 rfl ?_
                      refine rj_if_ne (pc := 118) (tgt := 125) dX11_spells_118 (by decide) (by first | assumption | exact b01_r | exact bz_r | omega | (constructor <;> omega) | exact hM _ | exact hPo _ | exact hTa _ | exact hRo _) (fun c_118 => ?_) (fun c_118 => ?_)
                      · try simp only [b01_0, bz_0, Classical.not_not] at c_118
                        all_goals (first | exact absurd trivial ‹¬ True› | exact absurd c_59 c_113 | exact absurd c_106 c_63 | (exfalso; omega))
                      · try simp only [b01_0, bz_0, Classical.not_not] at c_118
                        refine rj_iconst (pc := 121) dX11_spells_121 ?_
                        refine r_goto (pc := 122) (tgt := 126) dX11_spells_122 (by decide) ?_
                        refine r_istore_n (pc := 126) dX11_spells_126 (Nat.le_of_ble_eq_true rfl) ?_
                        dsimp only [lsSt, List.set, mLs, mEnt]
                        refine r_iload (pc := 127) dX11_spells_127 rfl ?_
                        refine rj_if_eq (pc := 129) (tgt := 135) dX11_spells_129 (by decide) (by first | assumption | exact b01_r | exact bz_r | omega | (constructor <;> omega) | exact hM _ | exact hPo _ | exact hTa _ | exact hRo _) (fun c_129 => ?_) (fun c_129 => ?_)
                        · try simp only [b01_0, bz_0, Classical.not_not] at c_129
                          refine r_aload_n (pc := 135) dX11_spells_135 rfl (by first | rfl | exact isRefV_rf _) ?_
                          refine rm_getf (pc := 136) dX11_spells_136 fX11_33 (by assumption) rfl ?_
                          refine r_aload_n (pc := 139) dX11_spells_139 rfl (by first | rfl | exact isRefV_rf _) ?_
                          refine rm_getf (pc := 140) dX11_spells_140 fX11_298 (by assumption) rfl ?_
                          refine r_iload (pc := 143) dX11_spells_143 rfl ?_
                          first | refine rm_iast6 (pc := 145) (j := w) dX11_spells_145 (by assumption) (by first | assumption | exact b01_r | exact bz_r | omega | (constructor <;> omega) | exact hM _ | exact hPo _ | exact hTa _ | exact hRo _) (by first | assumption | exact b01_r | exact bz_r | omega | (constructor <;> omega) | exact hM _ | exact hPo _ | exact hTa _ | exact hRo _) (by first | assumption | exact b01_r | exact bz_r | omega | (constructor <;> omega) | exact hM _ | exact hPo _ | exact hTa _ | exact hRo _) (by omega) (fun h_145 hB_145 hS_145 => ?_)
                          refine r_aload_n (pc := 146) dX11_spells_146 rfl (by first | rfl | exact isRefV_rf _) ?_
                          refine r_dup (pc := 147) dX11_spells_147 (by first | rfl | (cases ‹Option Nat› <;> rfl)) ?_
                          refine rm_getf (pc := 148) dX11_spells_148 fX11_298 (by assumption) rfl ?_
                          refine rj_iconst (pc := 151) dX11_spells_151 ?_
                          refine rj_iadd (pc := 152) dX11_spells_152 ?_
                          refine rm_putf (pc := 153) dX11_spells_153 fX11_298 (by assumption) rfl rfl (Nat.le_of_ble_eq_true rfl) (fun h_153 hB_153 hS_153 => ?_)
                          dsimp only [List.set, mFs] at hB_153
                          refine rj_iinc (pc := 156) dX11_spells_156 (Nat.le_of_ble_eq_true rfl) rfl ?_
                          dsimp only [lsSt, List.set, mLs, mEnt]
                          refine r_goto (pc := 159) (tgt := 10) dX11_spells_159 (by decide) ?_
                          rw [show ((p : Int) + 1) = ((p + 1 : Nat) : Int) by omega]
                          rw [spS, if_neg (fun g => c_49 g.2), if_neg (fun g => absurd g.2.2.1 (by omega))]
                          rw [show decide (dgP (pool p)) = true from decide_eq_true c_102]
                          have y := ih (p + 1) true (updI pap w (pool p)) (w + 1) _ (some (.int (J (pool p)))) (some (.int (J (b01 (48 ≤ pool p ∧ pool p ≤ 57))))) (some (.int (J 0))) (by omega) (by omega) (by omega) (by rw [show ((w + 1 : Nat) : Int) = (w : Int) + 1 by omega]; exact hB_153)
                          rw [show bz true = 1 from rfl] at y
                          exact y.mono (fun v h' q => ⟨q.1, q.2.1, (hS_145.trans hS_153).trans q.2.2⟩)
                        · try simp only [b01_0, bz_0, Classical.not_not] at c_129
                          all_goals (first | exact absurd trivial ‹¬ True› | exact absurd c_59 c_113 | exact absurd c_106 c_63 | (exfalso; omega))
              · refine r_aload_n (pc := 74) dX11_spells_74 rfl (by first | rfl | exact isRefV_rf _) ?_
                refine rm_getf (pc := 75) dX11_spells_75 fX11_21 (by assumption) rfl ?_
                refine r_iload (pc := 78) dX11_spells_78 rfl ?_
                refine rj_iconst (pc := 80) dX11_spells_80 ?_
                refine rj_iadd (pc := 81) dX11_spells_81 ?_
                refine rj_iald (pc := 82) (j := p + 1) dX11_spells_82 (by first | exact isM.g0 (by assumption) | exact isM.g3 (by assumption) | exact isM.g4 (by assumption) | exact isM.g8 (by assumption) | exact isM.g7 (by assumption) | exact isM.g6 (by assumption) | exact isM.g5 (by assumption) | exact isM.g1 (by assumption) | exact isM.g2 (by assumption)) (by first | assumption | exact b01_r | exact bz_r | omega | (constructor <;> omega) | exact hM _ | exact hPo _ | exact hTa _ | exact hRo _) (by first | assumption | exact b01_r | exact bz_r | omega | (constructor <;> omega) | exact hM _ | exact hPo _ | exact hTa _ | exact hRo _) (by first | assumption | exact b01_r | exact bz_r | omega | (constructor <;> omega) | exact hM _ | exact hPo _ | exact hTa _ | exact hRo _) (by omega) ?_
                refine rj_bipush (pc := 83) dX11_spells_83 (by decide +kernel) ?_
                refine rj_bipush (pc := 85) dX11_spells_85 (by decide +kernel) ?_
                refine r_callS3 (pc := 87) dX11_spells_87 qX11_isIn kX11_46 sX11_isIn (Nat.le_of_ble_eq_true rfl) ((m_isIn 0 rp1 (by decide) (by decide)).deeper (by omega)) (fun v_87 h_87 q_87 => ?_)
                obtain ⟨rfl, rfl⟩ := q_87
                refine rj_if_eq (pc := 90) (tgt := 97) dX11_spells_90 (by decide) (by first | assumption | exact b01_r | exact bz_r | omega | (constructor <;> omega) | exact hM _ | exact hPo _ | exact hTa _ | exact hRo _) (fun c_90 => ?_) (fun c_90 => ?_)
                · try simp only [b01_0, bz_0, Classical.not_not] at c_90
                  refine rj_iconst (pc := 97) dX11_spells_97 ?_
                  refine r_istore (pc := 98) dX11_spells_98 (Nat.le_of_ble_eq_true rfl) ?_
                  dsimp only [lsSt, List.set, mLs, mEnt]
                  refine r_iload (pc := 100) dX11_spells_100 rfl ?_
                  refine rj_if_eq (pc := 102) (tgt := 125) dX11_spells_102 (by decide) (by first | assumption | exact b01_r | exact bz_r | omega | (constructor <;> omega) | exact hM _ | exact hPo _ | exact hTa _ | exact hRo _) (fun c_102 => ?_) (fun c_102 => ?_)
                  · try simp only [b01_0, bz_0, Classical.not_not] at c_102
                    refine rj_iconst (pc := 125) dX11_spells_125 ?_
                    refine r_istore_n (pc := 126) dX11_spells_126 (Nat.le_of_ble_eq_true rfl) ?_
                    dsimp only [lsSt, List.set, mLs, mEnt]
                    refine r_iload (pc := 127) dX11_spells_127 rfl ?_
                    refine rj_if_eq (pc := 129) (tgt := 135) dX11_spells_129 (by decide) (by first | assumption | exact b01_r | exact bz_r | omega | (constructor <;> omega) | exact hM _ | exact hPo _ | exact hTa _ | exact hRo _) (fun c_129 => ?_) (fun c_129 => ?_)
                    · try simp only [b01_0, bz_0, Classical.not_not] at c_129
                      refine r_aload_n (pc := 135) dX11_spells_135 rfl (by first | rfl | exact isRefV_rf _) ?_
                      refine rm_getf (pc := 136) dX11_spells_136 fX11_33 (by assumption) rfl ?_
                      refine r_aload_n (pc := 139) dX11_spells_139 rfl (by first | rfl | exact isRefV_rf _) ?_
                      refine rm_getf (pc := 140) dX11_spells_140 fX11_298 (by assumption) rfl ?_
                      refine r_iload (pc := 143) dX11_spells_143 rfl ?_
                      first | refine rm_iast6 (pc := 145) (j := w) dX11_spells_145 (by assumption) (by first | assumption | exact b01_r | exact bz_r | omega | (constructor <;> omega) | exact hM _ | exact hPo _ | exact hTa _ | exact hRo _) (by first | assumption | exact b01_r | exact bz_r | omega | (constructor <;> omega) | exact hM _ | exact hPo _ | exact hTa _ | exact hRo _) (by first | assumption | exact b01_r | exact bz_r | omega | (constructor <;> omega) | exact hM _ | exact hPo _ | exact hTa _ | exact hRo _) (by omega) (fun h_145 hB_145 hS_145 => ?_)
                      refine r_aload_n (pc := 146) dX11_spells_146 rfl (by first | rfl | exact isRefV_rf _) ?_
                      refine r_dup (pc := 147) dX11_spells_147 (by first | rfl | (cases ‹Option Nat› <;> rfl)) ?_
                      refine rm_getf (pc := 148) dX11_spells_148 fX11_298 (by assumption) rfl ?_
                      refine rj_iconst (pc := 151) dX11_spells_151 ?_
                      refine rj_iadd (pc := 152) dX11_spells_152 ?_
                      refine rm_putf (pc := 153) dX11_spells_153 fX11_298 (by assumption) rfl rfl (Nat.le_of_ble_eq_true rfl) (fun h_153 hB_153 hS_153 => ?_)
                      dsimp only [List.set, mFs] at hB_153
                      refine rj_iinc (pc := 156) dX11_spells_156 (Nat.le_of_ble_eq_true rfl) rfl ?_
                      dsimp only [lsSt, List.set, mLs, mEnt]
                      refine r_goto (pc := 159) (tgt := 10) dX11_spells_159 (by decide) ?_
                      rw [show ((p : Int) + 1) = ((p + 1 : Nat) : Int) by omega]
                      rw [spS, if_neg (fun g => c_49 g.2), if_neg (fun g => c_90 g.2.2.2)]
                      rw [show decide (dgP (pool p)) = false from decide_eq_false c_102]
                      have y := ih (p + 1) false (updI pap w (pool p)) (w + 1) _ (some (.int (J (pool p)))) (some (.int (J (b01 (48 ≤ pool p ∧ pool p ≤ 57))))) (some (.int (J 0))) (by omega) (by omega) (by omega) (by rw [show ((w + 1 : Nat) : Int) = (w : Int) + 1 by omega]; exact hB_153)
                      rw [show bz false = 0 from rfl] at y
                      exact y.mono (fun v h' q => ⟨q.1, q.2.1, (hS_145.trans hS_153).trans q.2.2⟩)
                    · try simp only [b01_0, bz_0, Classical.not_not] at c_129
                      all_goals (first | exact absurd trivial ‹¬ True› | exact absurd c_59 c_113 | exact absurd c_106 c_63 | (exfalso; omega))
                  · try simp only [b01_0, bz_0, Classical.not_not] at c_102
                    refine r_iload_n (pc := 105) dX11_spells_105 rfl ?_
                    refine rj_if_ne (pc := 106) (tgt := 121) dX11_spells_106 (by decide) (by first | assumption | exact b01_r | exact bz_r | omega | (constructor <;> omega) | exact hM _ | exact hPo _ | exact hTa _ | exact hRo _) (fun c_106 => ?_) (fun c_106 => ?_)
                    · try simp only [b01_0, bz_0, Classical.not_not] at c_106
                      refine rj_iconst (pc := 121) dX11_spells_121 ?_
                      refine r_goto (pc := 122) (tgt := 126) dX11_spells_122 (by decide) ?_
                      refine r_istore_n (pc := 126) dX11_spells_126 (Nat.le_of_ble_eq_true rfl) ?_
                      dsimp only [lsSt, List.set, mLs, mEnt]
                      refine r_iload (pc := 127) dX11_spells_127 rfl ?_
                      refine rj_if_eq (pc := 129) (tgt := 135) dX11_spells_129 (by decide) (by first | assumption | exact b01_r | exact bz_r | omega | (constructor <;> omega) | exact hM _ | exact hPo _ | exact hTa _ | exact hRo _) (fun c_129 => ?_) (fun c_129 => ?_)
                      · try simp only [b01_0, bz_0, Classical.not_not] at c_129
                        refine r_aload_n (pc := 135) dX11_spells_135 rfl (by first | rfl | exact isRefV_rf _) ?_
                        refine rm_getf (pc := 136) dX11_spells_136 fX11_33 (by assumption) rfl ?_
                        refine r_aload_n (pc := 139) dX11_spells_139 rfl (by first | rfl | exact isRefV_rf _) ?_
                        refine rm_getf (pc := 140) dX11_spells_140 fX11_298 (by assumption) rfl ?_
                        refine r_iload (pc := 143) dX11_spells_143 rfl ?_
                        first | refine rm_iast6 (pc := 145) (j := w) dX11_spells_145 (by assumption) (by first | assumption | exact b01_r | exact bz_r | omega | (constructor <;> omega) | exact hM _ | exact hPo _ | exact hTa _ | exact hRo _) (by first | assumption | exact b01_r | exact bz_r | omega | (constructor <;> omega) | exact hM _ | exact hPo _ | exact hTa _ | exact hRo _) (by first | assumption | exact b01_r | exact bz_r | omega | (constructor <;> omega) | exact hM _ | exact hPo _ | exact hTa _ | exact hRo _) (by omega) (fun h_145 hB_145 hS_145 => ?_)
                        refine r_aload_n (pc := 146) dX11_spells_146 rfl (by first | rfl | exact isRefV_rf _) ?_
                        refine r_dup (pc := 147) dX11_spells_147 (by first | rfl | (cases ‹Option Nat› <;> rfl)) ?_
                        refine rm_getf (pc := 148) dX11_spells_148 fX11_298 (by assumption) rfl ?_
                        refine rj_iconst (pc := 151) dX11_spells_151 ?_
                        refine rj_iadd (pc := 152) dX11_spells_152 ?_
                        refine rm_putf (pc := 153) dX11_spells_153 fX11_298 (by assumption) rfl rfl (Nat.le_of_ble_eq_true rfl) (fun h_153 hB_153 hS_153 => ?_)
                        dsimp only [List.set, mFs] at hB_153
                        refine rj_iinc (pc := 156) dX11_spells_156 (Nat.le_of_ble_eq_true rfl) rfl ?_
                        dsimp only [lsSt, List.set, mLs, mEnt]
                        refine r_goto (pc := 159) (tgt := 10) dX11_spells_159 (by decide) ?_
                        rw [show ((p : Int) + 1) = ((p + 1 : Nat) : Int) by omega]
                        rw [spS, if_neg (fun g => c_49 g.2), if_neg (fun g => c_90 g.2.2.2)]
                        rw [show decide (dgP (pool p)) = true from decide_eq_true c_102]
                        have y := ih (p + 1) true (updI pap w (pool p)) (w + 1) _ (some (.int (J (pool p)))) (some (.int (J (b01 (48 ≤ pool p ∧ pool p ≤ 57))))) (some (.int (J 0))) (by omega) (by omega) (by omega) (by rw [show ((w + 1 : Nat) : Int) = (w : Int) + 1 by omega]; exact hB_153)
                        rw [show bz true = 1 from rfl] at y
                        exact y.mono (fun v h' q => ⟨q.1, q.2.1, (hS_145.trans hS_153).trans q.2.2⟩)
                      · try simp only [b01_0, bz_0, Classical.not_not] at c_129
                        all_goals (first | exact absurd trivial ‹¬ True› | exact absurd c_59 c_113 | exact absurd c_106 c_63 | (exfalso; omega))
                    · try simp only [b01_0, bz_0, Classical.not_not] at c_106
                      refine r_iload (pc := 109) dX11_spells_109 rfl ?_
                      refine rj_bipush (pc := 111) dX11_spells_111 (by decide +kernel) ?_
                      refine rj_icmp_ne (pc := 113) (tgt := 121) dX11_spells_113 (by decide) (by first | assumption | exact b01_r | exact bz_r | omega | (constructor <;> omega) | exact hM _ | exact hPo _ | exact hTa _ | exact hRo _) (by first | assumption | exact b01_r | exact bz_r | omega | (constructor <;> omega) | exact hM _ | exact hPo _ | exact hTa _ | exact hRo _) (fun c_113 => ?_) (fun c_113 => ?_)
                      · refine rj_iconst (pc := 121) dX11_spells_121 ?_
                        refine r_goto (pc := 122) (tgt := 126) dX11_spells_122 (by decide) ?_
                        refine r_istore_n (pc := 126) dX11_spells_126 (Nat.le_of_ble_eq_true rfl) ?_
                        dsimp only [lsSt, List.set, mLs, mEnt]
                        refine r_iload (pc := 127) dX11_spells_127 rfl ?_
                        refine rj_if_eq (pc := 129) (tgt := 135) dX11_spells_129 (by decide) (by first | assumption | exact b01_r | exact bz_r | omega | (constructor <;> omega) | exact hM _ | exact hPo _ | exact hTa _ | exact hRo _) (fun c_129 => ?_) (fun c_129 => ?_)
                        · try simp only [b01_0, bz_0, Classical.not_not] at c_129
                          refine r_aload_n (pc := 135) dX11_spells_135 rfl (by first | rfl | exact isRefV_rf _) ?_
                          refine rm_getf (pc := 136) dX11_spells_136 fX11_33 (by assumption) rfl ?_
                          refine r_aload_n (pc := 139) dX11_spells_139 rfl (by first | rfl | exact isRefV_rf _) ?_
                          refine rm_getf (pc := 140) dX11_spells_140 fX11_298 (by assumption) rfl ?_
                          refine r_iload (pc := 143) dX11_spells_143 rfl ?_
                          first | refine rm_iast6 (pc := 145) (j := w) dX11_spells_145 (by assumption) (by first | assumption | exact b01_r | exact bz_r | omega | (constructor <;> omega) | exact hM _ | exact hPo _ | exact hTa _ | exact hRo _) (by first | assumption | exact b01_r | exact bz_r | omega | (constructor <;> omega) | exact hM _ | exact hPo _ | exact hTa _ | exact hRo _) (by first | assumption | exact b01_r | exact bz_r | omega | (constructor <;> omega) | exact hM _ | exact hPo _ | exact hTa _ | exact hRo _) (by omega) (fun h_145 hB_145 hS_145 => ?_)
                          refine r_aload_n (pc := 146) dX11_spells_146 rfl (by first | rfl | exact isRefV_rf _) ?_
                          refine r_dup (pc := 147) dX11_spells_147 (by first | rfl | (cases ‹Option Nat› <;> rfl)) ?_
                          refine rm_getf (pc := 148) dX11_spells_148 fX11_298 (by assumption) rfl ?_
                          refine rj_iconst (pc := 151) dX11_spells_151 ?_
                          refine rj_iadd (pc := 152) dX11_spells_152 ?_
                          refine rm_putf (pc := 153) dX11_spells_153 fX11_298 (by assumption) rfl rfl (Nat.le_of_ble_eq_true rfl) (fun h_153 hB_153 hS_153 => ?_)
                          dsimp only [List.set, mFs] at hB_153
                          refine rj_iinc (pc := 156) dX11_spells_156 (Nat.le_of_ble_eq_true rfl) rfl ?_
                          dsimp only [lsSt, List.set, mLs, mEnt]
                          refine r_goto (pc := 159) (tgt := 10) dX11_spells_159 (by decide) ?_
                          rw [show ((p : Int) + 1) = ((p + 1 : Nat) : Int) by omega]
                          rw [spS, if_neg (fun g => c_49 g.2), if_neg (fun g => c_90 g.2.2.2)]
                          rw [show decide (dgP (pool p)) = true from decide_eq_true c_102]
                          have y := ih (p + 1) true (updI pap w (pool p)) (w + 1) _ (some (.int (J (pool p)))) (some (.int (J (b01 (48 ≤ pool p ∧ pool p ≤ 57))))) (some (.int (J 0))) (by omega) (by omega) (by omega) (by rw [show ((w + 1 : Nat) : Int) = (w : Int) + 1 by omega]; exact hB_153)
                          rw [show bz true = 1 from rfl] at y
                          exact y.mono (fun v h' q => ⟨q.1, q.2.1, (hS_145.trans hS_153).trans q.2.2⟩)
                        · try simp only [b01_0, bz_0, Classical.not_not] at c_129
                          all_goals (first | exact absurd trivial ‹¬ True› | exact absurd c_59 c_113 | exact absurd c_106 c_63 | (exfalso; omega))
                      · refine r_iload (pc := 116) dX11_spells_116 rfl ?_
                        refine rj_if_ne (pc := 118) (tgt := 125) dX11_spells_118 (by decide) (by first | assumption | exact b01_r | exact bz_r | omega | (constructor <;> omega) | exact hM _ | exact hPo _ | exact hTa _ | exact hRo _) (fun c_118 => ?_) (fun c_118 => ?_)
                        · try simp only [b01_0, bz_0, Classical.not_not] at c_118
                          all_goals (first | exact absurd trivial ‹¬ True› | exact absurd c_59 c_113 | exact absurd c_106 c_63 | (exfalso; omega))
                        · try simp only [b01_0, bz_0, Classical.not_not] at c_118
                          refine rj_iconst (pc := 121) dX11_spells_121 ?_
                          refine r_goto (pc := 122) (tgt := 126) dX11_spells_122 (by decide) ?_
                          refine r_istore_n (pc := 126) dX11_spells_126 (Nat.le_of_ble_eq_true rfl) ?_
                          dsimp only [lsSt, List.set, mLs, mEnt]
                          refine r_iload (pc := 127) dX11_spells_127 rfl ?_
                          refine rj_if_eq (pc := 129) (tgt := 135) dX11_spells_129 (by decide) (by first | assumption | exact b01_r | exact bz_r | omega | (constructor <;> omega) | exact hM _ | exact hPo _ | exact hTa _ | exact hRo _) (fun c_129 => ?_) (fun c_129 => ?_)
                          · try simp only [b01_0, bz_0, Classical.not_not] at c_129
                            refine r_aload_n (pc := 135) dX11_spells_135 rfl (by first | rfl | exact isRefV_rf _) ?_
                            refine rm_getf (pc := 136) dX11_spells_136 fX11_33 (by assumption) rfl ?_
                            refine r_aload_n (pc := 139) dX11_spells_139 rfl (by first | rfl | exact isRefV_rf _) ?_
                            refine rm_getf (pc := 140) dX11_spells_140 fX11_298 (by assumption) rfl ?_
                            refine r_iload (pc := 143) dX11_spells_143 rfl ?_
                            first | refine rm_iast6 (pc := 145) (j := w) dX11_spells_145 (by assumption) (by first | assumption | exact b01_r | exact bz_r | omega | (constructor <;> omega) | exact hM _ | exact hPo _ | exact hTa _ | exact hRo _) (by first | assumption | exact b01_r | exact bz_r | omega | (constructor <;> omega) | exact hM _ | exact hPo _ | exact hTa _ | exact hRo _) (by first | assumption | exact b01_r | exact bz_r | omega | (constructor <;> omega) | exact hM _ | exact hPo _ | exact hTa _ | exact hRo _) (by omega) (fun h_145 hB_145 hS_145 => ?_)
                            refine r_aload_n (pc := 146) dX11_spells_146 rfl (by first | rfl | exact isRefV_rf _) ?_
                            refine r_dup (pc := 147) dX11_spells_147 (by first | rfl | (cases ‹Option Nat› <;> rfl)) ?_
                            refine rm_getf (pc := 148) dX11_spells_148 fX11_298 (by assumption) rfl ?_
                            refine rj_iconst (pc := 151) dX11_spells_151 ?_
                            refine rj_iadd (pc := 152) dX11_spells_152 ?_
                            refine rm_putf (pc := 153) dX11_spells_153 fX11_298 (by assumption) rfl rfl (Nat.le_of_ble_eq_true rfl) (fun h_153 hB_153 hS_153 => ?_)
                            dsimp only [List.set, mFs] at hB_153
                            refine rj_iinc (pc := 156) dX11_spells_156 (Nat.le_of_ble_eq_true rfl) rfl ?_
                            dsimp only [lsSt, List.set, mLs, mEnt]
                            refine r_goto (pc := 159) (tgt := 10) dX11_spells_159 (by decide) ?_
                            rw [show ((p : Int) + 1) = ((p + 1 : Nat) : Int) by omega]
                            rw [spS, if_neg (fun g => c_49 g.2), if_neg (fun g => c_90 g.2.2.2)]
                            rw [show decide (dgP (pool p)) = true from decide_eq_true c_102]
                            have y := ih (p + 1) true (updI pap w (pool p)) (w + 1) _ (some (.int (J (pool p)))) (some (.int (J (b01 (48 ≤ pool p ∧ pool p ≤ 57))))) (some (.int (J 0))) (by omega) (by omega) (by omega) (by rw [show ((w + 1 : Nat) : Int) = (w : Int) + 1 by omega]; exact hB_153)
                            rw [show bz true = 1 from rfl] at y
                            exact y.mono (fun v h' q => ⟨q.1, q.2.1, (hS_145.trans hS_153).trans q.2.2⟩)
                          · try simp only [b01_0, bz_0, Classical.not_not] at c_129
                            all_goals (first | exact absurd trivial ‹¬ True› | exact absurd c_59 c_113 | exact absurd c_106 c_63 | (exfalso; omega))
                · try simp only [b01_0, bz_0, Classical.not_not] at c_90
                  refine rj_iconst (pc := 93) dX11_spells_93 ?_
                  refine r_goto (pc := 94) (tgt := 98) dX11_spells_94 (by decide) ?_
                  refine r_istore (pc := 98) dX11_spells_98 (Nat.le_of_ble_eq_true rfl) ?_
                  dsimp only [lsSt, List.set, mLs, mEnt]
                  refine r_iload (pc := 100) dX11_spells_100 rfl ?_
                  refine rj_if_eq (pc := 102) (tgt := 125) dX11_spells_102 (by decide) (by first | assumption | exact b01_r | exact bz_r | omega | (constructor <;> omega) | exact hM _ | exact hPo _ | exact hTa _ | exact hRo _) (fun c_102 => ?_) (fun c_102 => ?_)
                  · try simp only [b01_0, bz_0, Classical.not_not] at c_102
                    all_goals (first | exact absurd trivial ‹¬ True› | exact absurd c_59 c_113 | exact absurd c_106 c_63 | (exfalso; omega))
                  · try simp only [b01_0, bz_0, Classical.not_not] at c_102
                    refine r_iload_n (pc := 105) dX11_spells_105 rfl ?_
                    refine rj_if_ne (pc := 106) (tgt := 121) dX11_spells_106 (by decide) (by first | assumption | exact b01_r | exact bz_r | omega | (constructor <;> omega) | exact hM _ | exact hPo _ | exact hTa _ | exact hRo _) (fun c_106 => ?_) (fun c_106 => ?_)
                    · try simp only [b01_0, bz_0, Classical.not_not] at c_106
                      all_goals (first | exact absurd trivial ‹¬ True› | exact absurd c_59 c_113 | exact absurd c_106 c_63 | (exfalso; omega))
                    · try simp only [b01_0, bz_0, Classical.not_not] at c_106
                      refine r_iload (pc := 109) dX11_spells_109 rfl ?_
                      refine rj_bipush (pc := 111) dX11_spells_111 (by decide +kernel) ?_
                      refine rj_icmp_ne (pc := 113) (tgt := 121) dX11_spells_113 (by decide) (by first | assumption | exact b01_r | exact bz_r | omega | (constructor <;> omega) | exact hM _ | exact hPo _ | exact hTa _ | exact hRo _) (by first | assumption | exact b01_r | exact bz_r | omega | (constructor <;> omega) | exact hM _ | exact hPo _ | exact hTa _ | exact hRo _) (fun c_113 => ?_) (fun c_113 => ?_)
                      · all_goals (first | exact absurd trivial ‹¬ True› | exact absurd c_59 c_113 | exact absurd c_106 c_63 | (exfalso; omega))
                      · refine r_iload (pc := 116) dX11_spells_116 rfl ?_
                        refine rj_if_ne (pc := 118) (tgt := 125) dX11_spells_118 (by decide) (by first | assumption | exact b01_r | exact bz_r | omega | (constructor <;> omega) | exact hM _ | exact hPo _ | exact hTa _ | exact hRo _) (fun c_118 => ?_) (fun c_118 => ?_)
                        · try simp only [b01_0, bz_0, Classical.not_not] at c_118
                          refine rj_iconst (pc := 125) dX11_spells_125 ?_
                          refine r_istore_n (pc := 126) dX11_spells_126 (Nat.le_of_ble_eq_true rfl) ?_
                          dsimp only [lsSt, List.set, mLs, mEnt]
                          refine r_iload (pc := 127) dX11_spells_127 rfl ?_
                          refine rj_if_eq (pc := 129) (tgt := 135) dX11_spells_129 (by decide) (by first | assumption | exact b01_r | exact bz_r | omega | (constructor <;> omega) | exact hM _ | exact hPo _ | exact hTa _ | exact hRo _) (fun c_129 => ?_) (fun c_129 => ?_)
                          · try simp only [b01_0, bz_0, Classical.not_not] at c_129
                            all_goals (first | exact absurd trivial ‹¬ True› | exact absurd c_59 c_113 | exact absurd c_106 c_63 | (exfalso; omega))
                          · try simp only [b01_0, bz_0, Classical.not_not] at c_129
                            refine r_goto (pc := 132) (tgt := 156) dX11_spells_132 (by decide) ?_
                            refine rj_iinc (pc := 156) dX11_spells_156 (Nat.le_of_ble_eq_true rfl) rfl ?_
                            dsimp only [lsSt, List.set, mLs, mEnt]
                            refine r_goto (pc := 159) (tgt := 10) dX11_spells_159 (by decide) ?_
                            rw [show ((p : Int) + 1) = ((p + 1 : Nat) : Int) by omega]
                            rw [spS, if_neg (fun g => c_49 g.2), if_pos ⟨c_59, by simpa using c_63, by omega, c_90⟩]
                            have y := ih (p + 1) false pap w _ (some (.int (J (pool p)))) (some (.int (J (b01 (48 ≤ pool p ∧ pool p ≤ 57))))) (some (.int (J 1))) (by omega) (by omega) (by omega) hB0
                            rw [show bz false = 0 from rfl] at y
                            exact y
                        · try simp only [b01_0, bz_0, Classical.not_not] at c_118
                          all_goals (first | exact absurd trivial ‹¬ True› | exact absurd c_59 c_113 | exact absurd c_106 c_63 | (exfalso; omega))
        · try simp only [b01_0, bz_0, Classical.not_not] at c_49
          refine r_goto (pc := 52) (tgt := 156) dX11_spells_52 (by decide) ?_
          refine rj_iinc (pc := 156) dX11_spells_156 (Nat.le_of_ble_eq_true rfl) rfl ?_
          dsimp only [lsSt, List.set, mLs, mEnt]
          refine r_goto (pc := 159) (tgt := 10) dX11_spells_159 (by decide) ?_
          rw [show ((p : Int) + 1) = ((p + 1 : Nat) : Int) by omega]
          rw [spS, if_pos ⟨c_40, c_49⟩]
          exact ih (p + 1) b pap w _ _ _ _ (by omega) (by omega) (by omega) hB0
set_option maxHeartbeats 4000000 in
set_option maxRecDepth 100000 in
theorem m_spells {G : mG} {l : Launch} (d : Nat) {x s : Nat} {f4 f6 f8 f9 f10 f11 f12 f13 f14 f16 f18 : Int} {m kp was pool tape pln pap rwd rw : Nat → Int} {h : mH} (hB : isM h x (mFs x f4 f6 f8 f9 f10 f11 f12 f13 f14 f16 f18 s) m kp was pool tape pln pap rwd rw) (hPo : ∀ q, InR (pool q)) {fr to : Nat} (hto : to ≤ 12300) (hft : fr ≤ to) (h120 : to - fr ≤ 120) (hmin : minOk pool fr to) : RUNM G l (d + 2) mX11_spells [.ref x, .int (J (fr : Int)), .int (J (to : Int))] h (fun v h' => v = none ∧ isM h' x (mFs x f4 f6 f8 f9 f10 f11 f12 f13 f14 f16 ((spS pool to (to - fr) fr false pap 0).2 : Int) s) m kp was pool tape pln (spS pool to (to - fr) fr false pap 0).1 rwd rw ∧ Same (mBlk x) h h') := by
  have hB0 := hB
  dsimp only [mFs] at hB
  refine RUNM.of (by decide +kernel) (Nat.le_of_ble_eq_true rfl) ?_
  refine r_aload_n (pc := 0) dX11_spells_0 rfl (by first | rfl | exact isRefV_rf _) ?_
  refine rj_iconst (pc := 1) dX11_spells_1 ?_
  refine rm_putf (pc := 2) dX11_spells_2 fX11_298 (by assumption) rfl rfl (Nat.le_of_ble_eq_true rfl) (fun h_2 hB_2 hS_2 => ?_)
  dsimp only [List.set, mFs] at hB_2
  refine rj_iconst (pc := 5) dX11_spells_5 ?_
  refine r_istore_n (pc := 6) dX11_spells_6 (Nat.le_of_ble_eq_true rfl) ?_
  dsimp only [lsSt, List.set, mLs, mEnt]
  refine r_iload_n (pc := 7) dX11_spells_7 rfl ?_
  refine r_istore (pc := 8) dX11_spells_8 (Nat.le_of_ble_eq_true rfl) ?_
  dsimp only [lsSt, List.set, mLs, mEnt]
  exact (L_spells (G := G) (l := l) d hPo hto hmin (to - fr) fr false pap 0 _ none none none (by omega) (by omega) (by omega) (show isM h_2 x (mFs x f4 f6 f8 f9 f10 f11 f12 f13 f14 f16 ((0 : Nat) : Int) s) m kp was pool tape pln pap rwd rw from hB_2)).mono (fun v h' q => ⟨q.1, q.2.1, hS_2.trans q.2.2⟩)
set_option maxHeartbeats 4000000 in
set_option maxRecDepth 100000 in
theorem m_spell {G : mG} {l : Launch} (d : Nat) {x s : Nat} {f4 f6 f8 f9 f10 f11 f12 f13 f14 f16 f18 : Int} {m kp was pool tape pln pap rwd rw : Nat → Int} {h : mH} (hB : isM h x (mFs x f4 f6 f8 f9 f10 f11 f12 f13 f14 f16 f18 s) m kp was pool tape pln pap rwd rw) (hok : mOk m) (hPo : ∀ q, InR (pool q)) {t : Int} (ht : InR t) {P E : Nat} (hE : (0 ≤ t ∧ t ≤ m 1 - 1) → m (262 + 14 * t).toNat = P ∧ m (263 + 14 * t).toNat = E ∧ E ≤ 12300 ∧ P ≤ E ∧ E - P ≤ 120 ∧ minOk pool P E) : RUNM G l (d + 3) mX11_spell [.ref x, .int (J t)] h (fun v h' => (¬ (0 ≤ t ∧ t ≤ m 1 - 1) ∧ v = some (.int (J (-1))) ∧ h' = h) ∨ ((0 ≤ t ∧ t ≤ m 1 - 1) ∧ v = some (.int (J ((spS pool E (E - P) P false pap 0).2 : Int))) ∧ isM h' x (mFs x f4 f6 f8 f9 f10 f11 f12 f13 f14 f16 ((spS pool E (E - P) P false pap 0).2 : Int) s) m kp was pool tape pln (spS pool E (E - P) P false pap 0).1 rwd rw ∧ Same (mBlk x) h h')) := by
  obtain ⟨hM, k0, k1, k2, k3, k4, k5, k7⟩ := id hok
  have hB0 := hB
  dsimp only [mFs] at hB
  refine RUNM.of (by decide +kernel) (Nat.le_of_ble_eq_true rfl) ?_
  refine r_aload_n (pc := 0) dX11_spell_0 rfl (by first | rfl | exact isRefV_rf _) ?_
  refine r_iload_n (pc := 1) dX11_spell_1 rfl ?_
  refine r_callV1 (pc := 2) dX11_spell_2 qX11_isThing kX11_238 vX11_isThing (by exact isM.gx (by assumption)) rfl rfl (Nat.le_of_ble_eq_true rfl) (m_isThing _ hB0 ht ⟨by omega, by omega⟩) (fun v_2 h_2 q_2 => ?_)
  obtain ⟨rfl, rfl⟩ := q_2
  refine rj_if_ne (pc := 5) (tgt := 10) dX11_spell_5 (by decide) (by first | assumption | exact b01_r | exact bz_r | omega | (constructor <;> omega) | exact hM _ | exact hPo _ | exact hTa _ | exact hRo _) (fun c_5 => ?_) (fun c_5 => ?_)
  · try simp only [b01_0, bz_0, Classical.not_not] at c_5
    obtain ⟨z1, z2, z3, z4, z5, z6⟩ := hE c_5
    refine r_aload_n (pc := 10) dX11_spell_10 rfl (by first | rfl | exact isRefV_rf _) ?_
    refine r_aload_n (pc := 11) dX11_spell_11 rfl (by first | rfl | exact isRefV_rf _) ?_
    refine rm_getf (pc := 12) dX11_spell_12 fX11_11 (by assumption) rfl ?_
    refine r_iload_n (pc := 15) dX11_spell_15 rfl ?_
    refine rj_iconst (pc := 16) dX11_spell_16 ?_
    refine rj_iconst (pc := 17) dX11_spell_17 ?_
    refine r_callS3 (pc := 18) dX11_spell_18 qX11_ofThing kX11_54 sX11_ofThing (Nat.le_of_ble_eq_true rfl) (m_ofThing _) (fun v_18 h_18 q_18 => ?_)
    obtain ⟨rfl, rfl⟩ := q_18
    refine rj_iald (pc := 21) (j := (262 + 14 * t).toNat) dX11_spell_21 (by first | exact isM.g0 (by assumption) | exact isM.g3 (by assumption) | exact isM.g4 (by assumption) | exact isM.g8 (by assumption) | exact isM.g7 (by assumption) | exact isM.g6 (by assumption) | exact isM.g5 (by assumption) | exact isM.g1 (by assumption) | exact isM.g2 (by assumption)) (by first | assumption | exact b01_r | exact bz_r | omega | (constructor <;> omega) | exact hM _ | exact hPo _ | exact hTa _ | exact hRo _) (by first | assumption | exact b01_r | exact bz_r | omega | (constructor <;> omega) | exact hM _ | exact hPo _ | exact hTa _ | exact hRo _) (by first | assumption | exact b01_r | exact bz_r | omega | (constructor <;> omega) | exact hM _ | exact hPo _ | exact hTa _ | exact hRo _) (by omega) ?_
    rw [z1]
    refine r_aload_n (pc := 22) dX11_spell_22 rfl (by first | rfl | exact isRefV_rf _) ?_
    refine rm_getf (pc := 23) dX11_spell_23 fX11_11 (by assumption) rfl ?_
    refine r_iload_n (pc := 26) dX11_spell_26 rfl ?_
    refine rj_iconst (pc := 27) dX11_spell_27 ?_
    refine rj_iconst (pc := 28) dX11_spell_28 ?_
    refine r_callS3 (pc := 29) dX11_spell_29 qX11_ofThing kX11_54 sX11_ofThing (Nat.le_of_ble_eq_true rfl) (m_ofThing _) (fun v_29 h_29 q_29 => ?_)
    obtain ⟨rfl, rfl⟩ := q_29
    refine rj_iald (pc := 32) (j := (263 + 14 * t).toNat) dX11_spell_32 (by first | exact isM.g0 (by assumption) | exact isM.g3 (by assumption) | exact isM.g4 (by assumption) | exact isM.g8 (by assumption) | exact isM.g7 (by assumption) | exact isM.g6 (by assumption) | exact isM.g5 (by assumption) | exact isM.g1 (by assumption) | exact isM.g2 (by assumption)) (by first | assumption | exact b01_r | exact bz_r | omega | (constructor <;> omega) | exact hM _ | exact hPo _ | exact hTa _ | exact hRo _) (by first | assumption | exact b01_r | exact bz_r | omega | (constructor <;> omega) | exact hM _ | exact hPo _ | exact hTa _ | exact hRo _) (by first | assumption | exact b01_r | exact bz_r | omega | (constructor <;> omega) | exact hM _ | exact hPo _ | exact hTa _ | exact hRo _) (by omega) ?_
    rw [z2]
    refine r_callV2 (pc := 33) dX11_spell_33 qX11_spells kX11_301 vX11_spells (by exact isM.gx (by assumption)) rfl rfl (Nat.le_of_ble_eq_true rfl) (m_spells d hB0 hPo z3 z4 z5 z6) (fun v_33 h_33 q_33 => ?_)
    obtain ⟨rfl, hB_33, S_33⟩ := q_33
    have hBc := hB_33
    dsimp only [mFs] at hBc
    refine r_aload_n (pc := 36) dX11_spell_36 rfl (by first | rfl | exact isRefV_rf _) ?_
    refine rm_getf (pc := 37) dX11_spell_37 fX11_298 (by assumption) rfl ?_
    refine r_ireturn (pc := 40) .int dX11_spell_40 rfl (by first | rfl | assumption) ?_
    exact Or.inr ⟨c_5, rfl, hB_33, S_33⟩
  · try simp only [b01_0, bz_0, Classical.not_not] at c_5
    refine rj_iconst (pc := 8) dX11_spell_8 ?_
    refine r_ireturn (pc := 9) .int dX11_spell_9 rfl (by first | rfl | assumption) ?_
    exact Or.inl ⟨c_5, rfl, rfl⟩
set_option maxHeartbeats 4000000 in
set_option maxRecDepth 100000 in
theorem m_spellTask {G : mG} {l : Launch} (d : Nat) {x s : Nat} {f4 f6 f8 f9 f10 f11 f12 f13 f14 f16 f18 : Int} {m kp was pool tape pln pap rwd rw : Nat → Int} {h : mH} (hB : isM h x (mFs x f4 f6 f8 f9 f10 f11 f12 f13 f14 f16 f18 s) m kp was pool tape pln pap rwd rw) (hok : mOk m) (hPo : ∀ q, InR (pool q)) {t : Int} (ht : InR t) {P E : Nat} (hE : (0 ≤ t ∧ t ≤ m 3 - 1) → m (1616 + 72 * t).toNat = P ∧ m (1617 + 72 * t).toNat = E ∧ E ≤ 12300 ∧ P ≤ E ∧ E - P ≤ 120 ∧ minOk pool P E) : RUNM G l (d + 3) mX11_spellTask [.ref x, .int (J t)] h (fun v h' => (¬ (0 ≤ t ∧ t ≤ m 3 - 1) ∧ v = some (.int (J (-1))) ∧ h' = h) ∨ ((0 ≤ t ∧ t ≤ m 3 - 1) ∧ v = some (.int (J ((spS pool E (E - P) P false pap 0).2 : Int))) ∧ isM h' x (mFs x f4 f6 f8 f9 f10 f11 f12 f13 f14 f16 ((spS pool E (E - P) P false pap 0).2 : Int) s) m kp was pool tape pln (spS pool E (E - P) P false pap 0).1 rwd rw ∧ Same (mBlk x) h h')) := by
  obtain ⟨hM, k0, k1, k2, k3, k4, k5, k7⟩ := id hok
  have hB0 := hB
  dsimp only [mFs] at hB
  refine RUNM.of (by decide +kernel) (Nat.le_of_ble_eq_true rfl) ?_
  refine r_aload_n (pc := 0) dX11_spellTask_0 rfl (by first | rfl | exact isRefV_rf _) ?_
  refine r_iload_n (pc := 1) dX11_spellTask_1 rfl ?_
  refine r_callV1 (pc := 2) dX11_spellTask_2 qX11_isTask kX11_180 vX11_isTask (by exact isM.gx (by assumption)) rfl rfl (Nat.le_of_ble_eq_true rfl) (m_isTask _ hB0 ht ⟨by omega, by omega⟩) (fun v_2 h_2 q_2 => ?_)
  obtain ⟨rfl, rfl⟩ := q_2
  refine rj_if_ne (pc := 5) (tgt := 10) dX11_spellTask_5 (by decide) (by first | assumption | exact b01_r | exact bz_r | omega | (constructor <;> omega) | exact hM _ | exact hPo _ | exact hTa _ | exact hRo _) (fun c_5 => ?_) (fun c_5 => ?_)
  · try simp only [b01_0, bz_0, Classical.not_not] at c_5
    obtain ⟨z1, z2, z3, z4, z5, z6⟩ := hE c_5
    refine r_aload_n (pc := 10) dX11_spellTask_10 rfl (by first | rfl | exact isRefV_rf _) ?_
    refine r_aload_n (pc := 11) dX11_spellTask_11 rfl (by first | rfl | exact isRefV_rf _) ?_
    refine rm_getf (pc := 12) dX11_spellTask_12 fX11_11 (by assumption) rfl ?_
    refine r_iload_n (pc := 15) dX11_spellTask_15 rfl ?_
    refine rj_bipush (pc := 16) dX11_spellTask_16 (by decide +kernel) ?_
    refine rj_iconst (pc := 18) dX11_spellTask_18 ?_
    refine r_callS3 (pc := 19) dX11_spellTask_19 qX11_ofTask kX11_58 sX11_ofTask (Nat.le_of_ble_eq_true rfl) (m_ofTask _) (fun v_19 h_19 q_19 => ?_)
    obtain ⟨rfl, rfl⟩ := q_19
    refine rj_iald (pc := 22) (j := (1616 + 72 * t).toNat) dX11_spellTask_22 (by first | exact isM.g0 (by assumption) | exact isM.g3 (by assumption) | exact isM.g4 (by assumption) | exact isM.g8 (by assumption) | exact isM.g7 (by assumption) | exact isM.g6 (by assumption) | exact isM.g5 (by assumption) | exact isM.g1 (by assumption) | exact isM.g2 (by assumption)) (by first | assumption | exact b01_r | exact bz_r | omega | (constructor <;> omega) | exact hM _ | exact hPo _ | exact hTa _ | exact hRo _) (by first | assumption | exact b01_r | exact bz_r | omega | (constructor <;> omega) | exact hM _ | exact hPo _ | exact hTa _ | exact hRo _) (by first | assumption | exact b01_r | exact bz_r | omega | (constructor <;> omega) | exact hM _ | exact hPo _ | exact hTa _ | exact hRo _) (by omega) ?_
    rw [z1]
    refine r_aload_n (pc := 23) dX11_spellTask_23 rfl (by first | rfl | exact isRefV_rf _) ?_
    refine rm_getf (pc := 24) dX11_spellTask_24 fX11_11 (by assumption) rfl ?_
    refine r_iload_n (pc := 27) dX11_spellTask_27 rfl ?_
    refine rj_bipush (pc := 28) dX11_spellTask_28 (by decide +kernel) ?_
    refine rj_iconst (pc := 30) dX11_spellTask_30 ?_
    refine r_callS3 (pc := 31) dX11_spellTask_31 qX11_ofTask kX11_58 sX11_ofTask (Nat.le_of_ble_eq_true rfl) (m_ofTask _) (fun v_31 h_31 q_31 => ?_)
    obtain ⟨rfl, rfl⟩ := q_31
    refine rj_iald (pc := 34) (j := (1617 + 72 * t).toNat) dX11_spellTask_34 (by first | exact isM.g0 (by assumption) | exact isM.g3 (by assumption) | exact isM.g4 (by assumption) | exact isM.g8 (by assumption) | exact isM.g7 (by assumption) | exact isM.g6 (by assumption) | exact isM.g5 (by assumption) | exact isM.g1 (by assumption) | exact isM.g2 (by assumption)) (by first | assumption | exact b01_r | exact bz_r | omega | (constructor <;> omega) | exact hM _ | exact hPo _ | exact hTa _ | exact hRo _) (by first | assumption | exact b01_r | exact bz_r | omega | (constructor <;> omega) | exact hM _ | exact hPo _ | exact hTa _ | exact hRo _) (by first | assumption | exact b01_r | exact bz_r | omega | (constructor <;> omega) | exact hM _ | exact hPo _ | exact hTa _ | exact hRo _) (by omega) ?_
    rw [z2]
    refine r_callV2 (pc := 35) dX11_spellTask_35 qX11_spells kX11_301 vX11_spells (by exact isM.gx (by assumption)) rfl rfl (Nat.le_of_ble_eq_true rfl) (m_spells d hB0 hPo z3 z4 z5 z6) (fun v_35 h_35 q_35 => ?_)
    obtain ⟨rfl, hB_35, S_35⟩ := q_35
    have hBc := hB_35
    dsimp only [mFs] at hBc
    refine r_aload_n (pc := 38) dX11_spellTask_38 rfl (by first | rfl | exact isRefV_rf _) ?_
    refine rm_getf (pc := 39) dX11_spellTask_39 fX11_298 (by assumption) rfl ?_
    refine r_ireturn (pc := 42) .int dX11_spellTask_42 rfl (by first | rfl | assumption) ?_
    exact Or.inr ⟨c_5, rfl, hB_35, S_35⟩
  · try simp only [b01_0, bz_0, Classical.not_not] at c_5
    refine rj_iconst (pc := 8) dX11_spellTask_8 ?_
    refine r_ireturn (pc := 9) .int dX11_spellTask_9 rfl (by first | rfl | assumption) ?_
    exact Or.inl ⟨c_5, rfl, rfl⟩
