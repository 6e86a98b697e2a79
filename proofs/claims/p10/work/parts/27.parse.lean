/-! ===== contracts of the reference: texts from end to end, the tape ===== -/
set_option maxHeartbeats 4000000 in
set_option maxRecDepth 100000 in
theorem m_begins {G : mG} {l : Launch} (d : Nat) {h : mH} {x s : Nat} {f4 f6 f8 f9 f10 f11 f12 f13 f14 f16 f18 : Int} {m kp was pool tape pln pap rwd rw : Nat → Int}(hB : isM h x (mFs x f4 f6 f8 f9 f10 f11 f12 f13 f14 f16 f18 s) m kp was pool tape pln pap rwd rw) {s2 : Nat} {a b : Int} : RUNM G l (d) mX11_begins [.ref x, .ref (mAd x s2), .int (J a), .int (J b)] h (fun v h' => v = none ∧ isM h' x (mFs x f4 f6 a b (-1) f11 f12 0 f14 f16 f18 s2) m kp was pool tape pln pap rwd rw ∧ Same (mBlk x) h h') := by
  dsimp only [mFs] at hB
  refine RUNM.of (by decide +kernel) (Nat.le_of_ble_eq_true rfl) ?_
  refine r_aload_n (pc := 0) dX11_begins_0 rfl (by first | rfl | exact isRefV_rf _) ?_
  refine r_aload_n (pc := 1) dX11_begins_1 rfl (by first | rfl | exact isRefV_rf _) ?_
  refine rm_putf (pc := 2) dX11_begins_2 fX11_27 (by assumption) rfl rfl (Nat.le_of_ble_eq_true rfl) (fun h_2 hB_2 hS_2 => ?_)
  dsimp only [List.set, mFs] at hB_2
  refine r_aload_n (pc := 5) dX11_begins_5 rfl (by first | rfl | exact isRefV_rf _) ?_
  refine r_iload_n (pc := 6) dX11_begins_6 rfl ?_
  refine rm_putf (pc := 7) dX11_begins_7 fX11_65 (by assumption) rfl rfl (Nat.le_of_ble_eq_true rfl) (fun h_7 hB_7 hS_7 => ?_)
  dsimp only [List.set, mFs] at hB_7
  refine r_aload_n (pc := 10) dX11_begins_10 rfl (by first | rfl | exact isRefV_rf _) ?_
  refine r_iload_n (pc := 11) dX11_begins_11 rfl ?_
  refine rm_putf (pc := 12) dX11_begins_12 fX11_68 (by assumption) rfl rfl (Nat.le_of_ble_eq_true rfl) (fun h_12 hB_12 hS_12 => ?_)
  dsimp only [List.set, mFs] at hB_12
  refine r_aload_n (pc := 15) dX11_begins_15 rfl (by first | rfl | exact isRefV_rf _) ?_
  refine rj_iconst (pc := 16) dX11_begins_16 ?_
  refine rm_putf (pc := 17) dX11_begins_17 fX11_71 (by assumption) rfl rfl (Nat.le_of_ble_eq_true rfl) (fun h_17 hB_17 hS_17 => ?_)
  dsimp only [List.set, mFs] at hB_17
  refine r_aload_n (pc := 20) dX11_begins_20 rfl (by first | rfl | exact isRefV_rf _) ?_
  refine rj_iconst (pc := 21) dX11_begins_21 ?_
  refine rm_putf (pc := 22) dX11_begins_22 fX11_99 (by assumption) rfl rfl (Nat.le_of_ble_eq_true rfl) (fun h_22 hB_22 hS_22 => ?_)
  dsimp only [List.set, mFs] at hB_22
  refine r_return (pc := 25) dX11_begins_25 rfl ?_
  exact ⟨rfl, hB_22, (((hS_2.trans hS_7).trans hS_12).trans hS_17).trans hS_22⟩
def wholeR (len : Int) (q : PS) : Bool × PS := if q.1 = len ∧ q.2.2.2.2 = 0 then (true, q) else (false, failF q.1 q)
set_option maxHeartbeats 4000000 in
set_option maxRecDepth 100000 in
theorem m_isWhole {G : mG} {l : Launch} (d : Nat) {h : mH} {x s : Nat} {f4 f6 f9 f14 f16 f18 : Int} {q : PS} {m kp was pool tape pln pap rwd rw sr : Nat → Int} (hB : isM h x (mFs x f4 f6 q.1 f9 q.2.1 q.2.2.1 q.2.2.2.1 q.2.2.2.2 f14 f16 f18 s) m kp was pool tape pln pap rwd rw) (hT : txOk s sr pool tape f9) (hq : psOk f9 q) : RUNM G l (d + 1) mX11_isWhole [.ref x] h (fun v h' => v = some (.int (J (bz (wholeR f9 q).1))) ∧ isM h' x (mFs x f4 f6 ((wholeR f9 q).2).1 f9 ((wholeR f9 q).2).2.1 ((wholeR f9 q).2).2.2.1 ((wholeR f9 q).2).2.2.2.1 ((wholeR f9 q).2).2.2.2.2 f14 f16 f18 s) m kp was pool tape pln pap rwd rw ∧ Same (mBlk x) h h') := by
  dsimp only [mFs] at hB
  refine RUNM.of (by decide +kernel) (Nat.le_of_ble_eq_true rfl) ?_
  have hB0 := hB
  obtain ⟨hq1, hq2, hq3, hq4, hq5, hq6, hq7, hq8⟩ := id hq
  obtain ⟨hs, hl0, hby⟩ := id hT
  have h97 : f9 ≤ 12342 := by rcases hs with h | h <;> omega
  refine r_aload_n (pc := 0) dX11_isWhole_0 rfl (by first | rfl | exact isRefV_rf _) ?_
  refine rm_getf (pc := 1) dX11_isWhole_1 fX11_65 (by assumption) rfl ?_
  refine r_aload_n (pc := 4) dX11_isWhole_4 rfl (by first | rfl | exact isRefV_rf _) ?_
  refine rm_getf (pc := 5) dX11_isWhole_5 fX11_68 (by assumption) rfl ?_
  refine rj_icmp_ne (pc := 8) (tgt := 18) dX11_isWhole_8 (by decide) (by first | assumption | exact b01_r | exact bz_r | omega | (constructor <;> omega) | exact hM _ | exact hPo _ | exact hTa _ | exact hRo _) (by first | assumption | exact b01_r | exact bz_r | omega | (constructor <;> omega) | exact hM _ | exact hPo _ | exact hTa _ | exact hRo _) (fun c_8 => ?_) (fun c_8 => ?_)
  · refine r_aload_n (pc := 18) dX11_isWhole_18 rfl (by first | rfl | exact isRefV_rf _) ?_
    refine r_aload_n (pc := 19) dX11_isWhole_19 rfl (by first | rfl | exact isRefV_rf _) ?_
    refine rm_getf (pc := 20) dX11_isWhole_20 fX11_65 (by assumption) rfl ?_
    refine r_callV1 (pc := 23) dX11_isWhole_23 qX11_fails kX11_78 vX11_fails (by exact isM.gx (by assumption)) rfl rfl (Nat.le_of_ble_eq_true rfl) (m_fails d hB0 hT hq) (fun v_23 h_23 q_23 => ?_)
    obtain ⟨rfl, hB_23, hS_23⟩ := q_23
    refine rj_if_eq (pc := 26) (tgt := 33) dX11_isWhole_26 (by decide) (by first | assumption | exact b01_r | exact bz_r | omega | (constructor <;> omega) | exact hM _ | exact hPo _ | exact hTa _ | exact hRo _) (fun c_26 => ?_) (fun c_26 => ?_)
    · try simp only [b01_0, bz_0, Classical.not_not] at c_26
      refine rj_iconst (pc := 33) dX11_isWhole_33 ?_
      refine r_ireturn (pc := 34) .boolean dX11_isWhole_34 rfl (by first | exact nar_J0 | exact nar_J1 | exact nar_b01 | exact nar_bz) ?_
      first
      | exact ⟨by unfold wholeR; rw [if_pos ⟨by omega, by omega⟩]; exact bzT, by unfold wholeR; rw [if_pos ⟨by omega, by omega⟩]; exact hB0, Same.refl⟩
      | exact ⟨by unfold wholeR; rw [if_neg (by omega)]; exact bzF, by unfold wholeR; rw [if_neg (by omega)]; exact hB_23, hS_23⟩
      | exact absurd trivial c_26
    · try simp only [b01_0, bz_0, Classical.not_not] at c_26
      refine rj_iconst (pc := 29) dX11_isWhole_29 ?_
      refine r_goto (pc := 30) (tgt := 34) dX11_isWhole_30 (by decide) ?_
      refine r_ireturn (pc := 34) .boolean dX11_isWhole_34 rfl (by first | exact nar_J0 | exact nar_J1 | exact nar_b01 | exact nar_bz) ?_
      first
      | exact ⟨by unfold wholeR; rw [if_pos ⟨by omega, by omega⟩]; exact bzT, by unfold wholeR; rw [if_pos ⟨by omega, by omega⟩]; exact hB0, Same.refl⟩
      | exact ⟨by unfold wholeR; rw [if_neg (by omega)]; exact bzF, by unfold wholeR; rw [if_neg (by omega)]; exact hB_23, hS_23⟩
      | exact absurd trivial c_26
  · refine r_aload_n (pc := 11) dX11_isWhole_11 rfl (by first | rfl | exact isRefV_rf _) ?_
    refine rm_getf (pc := 12) dX11_isWhole_12 fX11_99 (by assumption) rfl ?_
    refine rj_if_eq (pc := 15) (tgt := 29) dX11_isWhole_15 (by decide) (by first | assumption | exact b01_r | exact bz_r | omega | (constructor <;> omega) | exact hM _ | exact hPo _ | exact hTa _ | exact hRo _) (fun c_15 => ?_) (fun c_15 => ?_)
    · try simp only [b01_0, bz_0, Classical.not_not] at c_15
      refine rj_iconst (pc := 29) dX11_isWhole_29 ?_
      refine r_goto (pc := 30) (tgt := 34) dX11_isWhole_30 (by decide) ?_
      refine r_ireturn (pc := 34) .boolean dX11_isWhole_34 rfl (by first | exact nar_J0 | exact nar_J1 | exact nar_b01 | exact nar_bz) ?_
      first
      | exact ⟨by unfold wholeR; rw [if_pos ⟨by omega, by omega⟩]; exact bzT, by unfold wholeR; rw [if_pos ⟨by omega, by omega⟩]; exact hB0, Same.refl⟩
      | exact ⟨by unfold wholeR; rw [if_neg (by omega)]; exact bzF, by unfold wholeR; rw [if_neg (by omega)]; exact hB_23, hS_23⟩
      | exact absurd trivial c_26
    · try simp only [b01_0, bz_0, Classical.not_not] at c_15
      refine r_aload_n (pc := 18) dX11_isWhole_18 rfl (by first | rfl | exact isRefV_rf _) ?_
      refine r_aload_n (pc := 19) dX11_isWhole_19 rfl (by first | rfl | exact isRefV_rf _) ?_
      refine rm_getf (pc := 20) dX11_isWhole_20 fX11_65 (by assumption) rfl ?_
      refine r_callV1 (pc := 23) dX11_isWhole_23 qX11_fails kX11_78 vX11_fails (by exact isM.gx (by assumption)) rfl rfl (Nat.le_of_ble_eq_true rfl) (m_fails d hB0 hT hq) (fun v_23 h_23 q_23 => ?_)
      obtain ⟨rfl, hB_23, hS_23⟩ := q_23
      refine rj_if_eq (pc := 26) (tgt := 33) dX11_isWhole_26 (by decide) (by first | assumption | exact b01_r | exact bz_r | omega | (constructor <;> omega) | exact hM _ | exact hPo _ | exact hTa _ | exact hRo _) (fun c_26 => ?_) (fun c_26 => ?_)
      · try simp only [b01_0, bz_0, Classical.not_not] at c_26
        refine rj_iconst (pc := 33) dX11_isWhole_33 ?_
        refine r_ireturn (pc := 34) .boolean dX11_isWhole_34 rfl (by first | exact nar_J0 | exact nar_J1 | exact nar_b01 | exact nar_bz) ?_
        first
        | exact ⟨by unfold wholeR; rw [if_pos ⟨by omega, by omega⟩]; exact bzT, by unfold wholeR; rw [if_pos ⟨by omega, by omega⟩]; exact hB0, Same.refl⟩
        | exact ⟨by unfold wholeR; rw [if_neg (by omega)]; exact bzF, by unfold wholeR; rw [if_neg (by omega)]; exact hB_23, hS_23⟩
        | exact absurd trivial c_26
      · try simp only [b01_0, bz_0, Classical.not_not] at c_26
        refine rj_iconst (pc := 29) dX11_isWhole_29 ?_
        refine r_goto (pc := 30) (tgt := 34) dX11_isWhole_30 (by decide) ?_
        refine r_ireturn (pc := 34) .boolean dX11_isWhole_34 rfl (by first | exact nar_J0 | exact nar_J1 | exact nar_b01 | exact nar_bz) ?_
        first
        | exact ⟨by unfold wholeR; rw [if_pos ⟨by omega, by omega⟩]; exact bzT, by unfold wholeR; rw [if_pos ⟨by omega, by omega⟩]; exact hB0, Same.refl⟩
        | exact ⟨by unfold wholeR; rw [if_neg (by omega)]; exact bzF, by unfold wholeR; rw [if_neg (by omega)]; exact hB_23, hS_23⟩
        | exact absurd trivial c_26
set_option maxHeartbeats 4000000 in
set_option maxRecDepth 100000 in
theorem m_clear {G : mG} {l : Launch} (d : Nat) {h : mH} {x s : Nat} {f4 f6 f8 f9 f10 f11 f12 f13 f14 f16 f18 : Int} {m kp was pool tape pln pap rwd rw : Nat → Int}(hB : isM h x (mFs x f4 f6 f8 f9 f10 f11 f12 f13 f14 f16 f18 s) m kp was pool tape pln pap rwd rw) : RUNM G l (d) mX11_clear [.ref x] h (fun v h' => v = some (.int (J f6)) ∧ isM h' x (mFs x f4 0 f8 f9 f10 f11 f12 f13 f14 f16 f18 s) m kp was pool tape pln pap rwd rw ∧ Same (mBlk x) h h') := by
  dsimp only [mFs] at hB
  refine RUNM.of (by decide +kernel) (Nat.le_of_ble_eq_true rfl) ?_
  refine r_aload_n (pc := 0) dX11_clear_0 rfl (by first | rfl | exact isRefV_rf _) ?_
  refine rm_getf (pc := 1) dX11_clear_1 fX11_61 (by assumption) rfl ?_
  refine r_istore_n (pc := 4) dX11_clear_4 (Nat.le_of_ble_eq_true rfl) ?_
  dsimp only [lsSt, List.set, mLs, mEnt]
  refine r_aload_n (pc := 5) dX11_clear_5 rfl (by first | rfl | exact isRefV_rf _) ?_
  refine rj_iconst (pc := 6) dX11_clear_6 ?_
  refine rm_putf (pc := 7) dX11_clear_7 fX11_61 (by assumption) rfl rfl (Nat.le_of_ble_eq_true rfl) (fun h_7 hB_7 hS_7 => ?_)
  dsimp only [List.set, mFs] at hB_7
  refine r_iload_n (pc := 10) dX11_clear_10 rfl ?_
  refine r_ireturn (pc := 11) .int dX11_clear_11 rfl (by first | rfl | assumption) ?_
  exact ⟨rfl, hB_7, hS_7⟩
def feedV (f6 c : Int) : Int := if 1 ≤ c ∧ c ≤ 127 then (if f6 = 120 then -4 else f6 + 1) else -2
def feedC (f6 c : Int) : Prop := (1 ≤ c ∧ c ≤ 127) ∧ ¬ f6 = 120
set_option maxHeartbeats 4000000 in
set_option maxRecDepth 100000 in
theorem m_feed {G : mG} {l : Launch} (d : Nat) {h : mH} {x s : Nat} {f4 f6 f8 f9 f10 f11 f12 f13 f14 f16 f18 : Int} {m kp was pool tape pln pap rwd rw : Nat → Int}(hB : isM h x (mFs x f4 f6 f8 f9 f10 f11 f12 f13 f14 f16 f18 s) m kp was pool tape pln pap rwd rw) {c : Int} (hc : InR c) (h0 : 0 ≤ f6) (h1 : f6 ≤ 120) : RUNM G l (d + 1) mX11_feed [.ref x, .int (J c)] h (fun v h' => v = some (.int (J (feedV f6 c))) ∧ ((¬ feedC f6 c ∧ h' = h) ∨ (feedC f6 c ∧ isM h' x (mFs x f4 (f6 + 1) f8 f9 f10 f11 f12 f13 f14 f16 f18 s) m kp was pool (updI tape f6.toNat c) pln pap rwd rw ∧ Same (mBlk x) h h'))) := by
  dsimp only [mFs] at hB
  refine RUNM.of (by decide +kernel) (Nat.le_of_ble_eq_true rfl) ?_
  refine r_iload_n (pc := 0) dX11_feed_0 rfl ?_
  refine rj_iconst (pc := 1) dX11_feed_1 ?_
  refine rj_bipush (pc := 2) dX11_feed_2 (by decide +kernel) ?_
  refine r_callS3 (pc := 4) dX11_feed_4 qX11_isIn kX11_46 sX11_isIn (Nat.le_of_ble_eq_true rfl) (m_isIn d hc (by decide) (by decide)) (fun v_4 h_4 q_4 => ?_)
  obtain ⟨rfl, rfl⟩ := q_4
  refine rj_if_ne (pc := 7) (tgt := 13) dX11_feed_7 (by decide) (by first | assumption | exact b01_r | exact bz_r | omega | (constructor <;> omega) | exact hM _ | exact hPo _ | exact hTa _ | exact hRo _) (fun c_7 => ?_) (fun c_7 => ?_)
  · try simp only [b01_0, bz_0, Classical.not_not] at c_7
    refine r_aload_n (pc := 13) dX11_feed_13 rfl (by first | rfl | exact isRefV_rf _) ?_
    refine rm_getf (pc := 14) dX11_feed_14 fX11_61 (by assumption) rfl ?_
    refine rj_bipush (pc := 17) dX11_feed_17 (by decide +kernel) ?_
    refine rj_icmp_ne (pc := 19) (tgt := 25) dX11_feed_19 (by decide) (by first | assumption | exact b01_r | exact bz_r | omega | (constructor <;> omega) | exact hM _ | exact hPo _ | exact hTa _ | exact hRo _) (by first | assumption | exact b01_r | exact bz_r | omega | (constructor <;> omega) | exact hM _ | exact hPo _ | exact hTa _ | exact hRo _) (fun c_19 => ?_) (fun c_19 => ?_)
    · refine r_aload_n (pc := 25) dX11_feed_25 rfl (by first | rfl | exact isRefV_rf _) ?_
      refine rm_getf (pc := 26) dX11_feed_26 fX11_24 (by assumption) rfl ?_
      refine r_aload_n (pc := 29) dX11_feed_29 rfl (by first | rfl | exact isRefV_rf _) ?_
      refine rm_getf (pc := 30) dX11_feed_30 fX11_61 (by assumption) rfl ?_
      refine r_iload_n (pc := 33) dX11_feed_33 rfl ?_
      first | refine rm_iast4 (pc := 34) dX11_feed_34 (by assumption) (by first | assumption | exact b01_r | exact bz_r | omega | (constructor <;> omega) | exact hM _ | exact hPo _ | exact hTa _ | exact hRo _) (by first | assumption | exact b01_r | exact bz_r | omega | (constructor <;> omega) | exact hM _ | exact hPo _ | exact hTa _ | exact hRo _) (by first | assumption | exact b01_r | exact bz_r | omega | (constructor <;> omega) | exact hM _ | exact hPo _ | exact hTa _ | exact hRo _) rfl (fun h_34 hB_34 hS_34 => ?_)
      try simp only [Int.reduceToNat] at hB_34
      refine r_aload_n (pc := 35) dX11_feed_35 rfl (by first | rfl | exact isRefV_rf _) ?_
      refine r_dup (pc := 36) dX11_feed_36 (by first | rfl | (cases ‹Option Nat› <;> rfl)) ?_
      refine rm_getf (pc := 37) dX11_feed_37 fX11_61 (by assumption) rfl ?_
      refine rj_iconst (pc := 40) dX11_feed_40 ?_
      refine rj_iadd (pc := 41) dX11_feed_41 ?_
      refine rm_putf (pc := 42) dX11_feed_42 fX11_61 (by assumption) rfl rfl (Nat.le_of_ble_eq_true rfl) (fun h_42 hB_42 hS_42 => ?_)
      dsimp only [List.set, mFs] at hB_42
      refine r_aload_n (pc := 45) dX11_feed_45 rfl (by first | rfl | exact isRefV_rf _) ?_
      refine rm_getf (pc := 46) dX11_feed_46 fX11_61 (by assumption) rfl ?_
      refine r_ireturn (pc := 49) .int dX11_feed_49 rfl (by first | rfl | assumption) ?_
      exact ⟨by unfold feedV; rw [if_pos c_7, if_neg c_19], Or.inr ⟨⟨c_7, c_19⟩, hB_42, hS_34.trans hS_42⟩⟩
    · refine rj_bipush (pc := 22) dX11_feed_22 (by decide +kernel) ?_
      refine r_ireturn (pc := 24) .int dX11_feed_24 rfl (by first | rfl | assumption) ?_
      exact ⟨by unfold feedV; rw [if_pos c_7, if_pos c_19], Or.inl ⟨fun g => g.2 c_19, rfl⟩⟩
  · try simp only [b01_0, bz_0, Classical.not_not] at c_7
    refine rj_bipush (pc := 10) dX11_feed_10 (by decide +kernel) ?_
    refine r_ireturn (pc := 12) .int dX11_feed_12 rfl (by first | rfl | assumption) ?_
    exact ⟨by unfold feedV; rw [if_neg c_7], Or.inl ⟨fun g => c_7 g.1, rfl⟩⟩
def movesM (m : Nat → Int) (t : Nat) (s : Int) : Nat → Int := updI (updI (updI m (259 + 14 * t) s) 6 (m 6 + 1)) (260 + 14 * t) (m 6 + 1)
set_option maxHeartbeats 4000000 in
set_option maxRecDepth 100000 in
theorem m_moves {G : mG} {l : Launch} (d : Nat) {h : mH} {x s : Nat} {f4 f6 f8 f9 f10 f11 f12 f13 f14 f16 f18 : Int} {m kp was pool tape pln pap rwd rw : Nat → Int}(hB : isM h x (mFs x f4 f6 f8 f9 f10 f11 f12 f13 f14 f16 f18 s) m kp was pool tape pln pap rwd rw) {t : Nat} (ht : t ≤ 89) {b : Int} : RUNM G l (d + 1) mX11_moves [.ref x, .int (J (t : Int)), .int (J b)] h (fun v h' => v = none ∧ isM h' x (mFs x f4 f6 f8 f9 f10 f11 f12 f13 f14 f16 f18 s) (movesM m t b) kp was pool tape pln pap rwd rw ∧ Same (mBlk x) h h') := by
  dsimp only [mFs] at hB
  refine RUNM.of (by decide +kernel) (Nat.le_of_ble_eq_true rfl) ?_
  refine r_aload_n (pc := 0) dX11_moves_0 rfl (by first | rfl | exact isRefV_rf _) ?_
  refine rm_getf (pc := 1) dX11_moves_1 fX11_11 (by assumption) rfl ?_
  refine r_iload_n (pc := 4) dX11_moves_4 rfl ?_
  refine rj_iconst (pc := 5) dX11_moves_5 ?_
  refine rj_iconst (pc := 6) dX11_moves_6 ?_
  refine r_callS3 (pc := 7) dX11_moves_7 qX11_ofThing kX11_54 sX11_ofThing (Nat.le_of_ble_eq_true rfl) (m_ofThing d) (fun v_7 h_7 q_7 => ?_)
  obtain ⟨rfl, rfl⟩ := q_7
  refine r_iload_n (pc := 10) dX11_moves_10 rfl ?_
  first | refine rm_iast0 (pc := 11) (j := 259 + 14 * t) dX11_moves_11 (by assumption) (by first | assumption | exact b01_r | exact bz_r | omega | (constructor <;> omega) | exact hM _ | exact hPo _ | exact hTa _ | exact hRo _) (by first | assumption | exact b01_r | exact bz_r | omega | (constructor <;> omega) | exact hM _ | exact hPo _ | exact hTa _ | exact hRo _) (by first | assumption | exact b01_r | exact bz_r | omega | (constructor <;> omega) | exact hM _ | exact hPo _ | exact hTa _ | exact hRo _) (by omega) (fun h_11 hB_11 hS_11 => ?_)
  refine r_aload_n (pc := 12) dX11_moves_12 rfl (by first | rfl | exact isRefV_rf _) ?_
  refine rm_getf (pc := 13) dX11_moves_13 fX11_11 (by assumption) rfl ?_
  refine r_iload_n (pc := 16) dX11_moves_16 rfl ?_
  refine rj_iconst (pc := 17) dX11_moves_17 ?_
  refine rj_iconst (pc := 18) dX11_moves_18 ?_
  refine r_callS3 (pc := 19) dX11_moves_19 qX11_ofThing kX11_54 sX11_ofThing (Nat.le_of_ble_eq_true rfl) (m_ofThing d) (fun v_19 h_19 q_19 => ?_)
  obtain ⟨rfl, rfl⟩ := q_19
  refine r_aload_n (pc := 22) dX11_moves_22 rfl (by first | rfl | exact isRefV_rf _) ?_
  refine r_callV0 (pc := 23) dX11_moves_23 qX11_stamp kX11_126 vX11_stamp (by exact isM.gx (by assumption)) rfl rfl (Nat.le_of_ble_eq_true rfl) (m_stamp d hB_11) (fun v_23 h_23 q_23 => ?_)
  obtain ⟨rfl, hB_23, hS_23⟩ := q_23
  rw [updI_n (by omega)] at hB_23 ⊢
  first | refine rm_iast0 (pc := 26) (j := 260 + 14 * t) dX11_moves_26 (by assumption) (by first | assumption | exact b01_r | exact bz_r | omega | (constructor <;> omega) | exact hM _ | exact hPo _ | exact hTa _ | exact hRo _) (by first | assumption | exact b01_r | exact bz_r | omega | (constructor <;> omega) | exact hM _ | exact hPo _ | exact hTa _ | exact hRo _) (by first | assumption | exact b01_r | exact bz_r | omega | (constructor <;> omega) | exact hM _ | exact hPo _ | exact hTa _ | exact hRo _) (by omega) (fun h_26 hB_26 hS_26 => ?_)
  refine r_return (pc := 27) dX11_moves_27 rfl ?_
  exact ⟨rfl, hB_26, (hS_11.trans hS_23).trans hS_26⟩
