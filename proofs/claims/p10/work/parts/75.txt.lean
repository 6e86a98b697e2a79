/-! ===== the reference: take, rename, task ===== -/
def ps0 (f11 f12 : Int) : PS := (0, -1, f11, f12, 0)
theorem ps0_ok {len f11 f12 : Int} (h : 0 ≤ len) (h11 : 0 ≤ f11 ∧ f11 ≤ 99999) : psOk len (ps0 f11 f12) := ⟨Int.le_refl _, h, Int.le_refl _, by show (-1 : Int) ≤ len; omega, h11.1, h11.2, Int.le_refl _, by show (0 : Int) ≤ 0 + 90; omega⟩
/-- a text that was read must be read to its end -/
def wR (len : Int) (r : Bool × PS) : Bool × PS := if r.1 = true then wholeR len r.2 else r
theorem wholeR_ok {len : Int} {q : PS} (hq : psOk len q) : psOk len (wholeR len q).2 := by
  unfold wholeR; split
  · exact hq
  · exact fail_ok hq hq.1 hq.2.1
def bytesOk (tape : Nat → Int) : Prop := ∀ i, 0 ≤ tape i ∧ tape i ≤ 127
theorem isM.isMs {h : mH} {x s : Nat} {f4 f6 f8 f9 f10 f11 f12 f13 f14 f16 f18 : Int} {m kp was pool tape pln pap rwd rw : Nat → Int} (h11 : 0 ≤ f11 ∧ f11 ≤ 99999) (hB : isM h x (mFs x f4 f6 f8 f9 f10 f11 f12 f13 f14 f16 f18 s) m kp was pool tape pln pap rwd rw) : isMs h x f4 f6 f14 f16 f18 m kp was pool tape pln pap rwd rw := ⟨f8, f9, f10, f11, f12, f13, s, h11, hB⟩
def renR (tape : Nat → Int) (len f11 f12 : Int) : Bool × PS := wR len (decide (nameB tape len (ps0 f11 f12)), nameF tape len (ps0 f11 f12))
def renF (m tape : Nat → Int) (t : Nat) (len f11 f12 : Int) : Int × (Nat → Int) :=
  if (renR tape len f11 f12).1 = true then (if 0 ≤ hbL m tape 0 len.toNat (m 1).toNat 0 then (-3, m) else (len, namesM m tape t 0 len.toNat)) else (-100 - (renR tape len f11 f12).2.2.1, m)
theorem nameL_d {sr : Nat → Int} {len : Int} : ∀ (n : Nat) (q : PS), (nameL sr len n q).1 ≤ q.1 + n
  | 0, q => by unfold nameL; simp
  | n + 1, q => by
    unfold nameL
    split
    · have := nameL_d (sr := sr) (len := len) n (advF q); have e : (advF q).1 = q.1 + 1 := rfl; omega
    · omega
theorem renR_7 {tape : Nat → Int} {len f11 f12 : Int} (h : (renR tape len f11 f12).1 = true) : len ≤ 7 := by
  by_cases c : nameB tape len (ps0 f11 f12)
  · have d := nameL_d (sr := tape) (len := len) 7 (ps0 f11 f12)
    have e : renR tape len f11 f12 = wholeR len (nameF tape len (ps0 f11 f12)) := by unfold renR wR; rw [if_pos (decide_eq_true c)]
    rw [e] at h
    unfold wholeR at h
    split at h
    · rename_i g
      obtain ⟨g1, -⟩ := g
      rw [show nameF tape len (ps0 f11 f12) = nameL tape len 7 (ps0 f11 f12) from if_pos c] at g1
      have e0 : (ps0 f11 f12).1 = 0 := rfl
      omega
    · cases h
  · have e : renR tape len f11 f12 = (decide (nameB tape len (ps0 f11 f12)), nameF tape len (ps0 f11 f12)) := by
      unfold renR wR
      rw [if_neg (by show ¬ (decide _ = true); rw [decide_eq_false c]; decide)]
    rw [e, decide_eq_false c] at h
    cases h
set_option maxHeartbeats 4000000 in
set_option maxRecDepth 100000 in
theorem m_rename {G : mG} {l : Launch} {h : mH} {x s : Nat} {f4 f6 f8 f9 f10 f11 f12 f13 f14 f16 f18 : Int} {m kp was pool tape pln pap rwd rw : Nat → Int}(hB : isM h x (mFs x f4 f6 f8 f9 f10 f11 f12 f13 f14 f16 f18 s) m kp was pool tape pln pap rwd rw) (hok : mOk m) (hT : bytesOk tape) (h6 : 0 ≤ f6 ∧ f6 ≤ 120) (h11 : 0 ≤ f11 ∧ f11 ≤ 99999) {t : Int} (ht : InR t) : RUNM G l 40 mX11_rename [.ref x, .int (J t)] h (fun v h' => (¬ closeDo m t ∧ v = some (.int (J (closeN m t))) ∧ h' = h) ∨ (closeDo m t ∧ v = some (.int (J (renF m tape t.toNat f6 f11 f12).1)) ∧ isMs h' x f4 0 f14 f16 f18 (renF m tape t.toNat f6 f11 f12).2 kp was pool tape pln pap rwd rw ∧ Same (mBlk x) h h')) := by
  obtain ⟨hM, k0, k1, k2, k3, k4, k5, k7⟩ := id hok
  have hB0 := hB
  have hTx : txOk 4 tape pool tape f6 := ⟨Or.inl ⟨rfl, rfl, h6.2⟩, h6.1, hT⟩
  have hq0 : psOk f6 (ps0 f11 f12) := ps0_ok h6.1 h11
  have hqn := name_ok (sr := tape) hq0
  have hTa : ∀ q, InR (tape q) := fun q => by have := hT q; exact ⟨by omega, by omega⟩
  have hw2 : (renR tape f6 f11 f12).2 = (if nameB tape f6 (ps0 f11 f12) then (wholeR f6 (nameF tape f6 (ps0 f11 f12))).2 else nameF tape f6 (ps0 f11 f12)) := by
    unfold renR wR; by_cases c : nameB tape f6 (ps0 f11 f12) <;> simp [c]
  have hw1 : (renR tape f6 f11 f12).1 = (if nameB tape f6 (ps0 f11 f12) then (wholeR f6 (nameF tape f6 (ps0 f11 f12))).1 else false) := by
    unfold renR wR; by_cases c : nameB tape f6 (ps0 f11 f12) <;> simp [c]
  dsimp only [mFs] at hB
  refine RUNM.of (by decide +kernel) (Nat.le_of_ble_eq_true rfl) ?_
  refine r_aload_n (pc := 0) dX11_rename_0 rfl (by first | rfl | exact isRefV_rf _) ?_
  refine r_iload_n (pc := 1) dX11_rename_1 rfl ?_
  refine r_callV1 (pc := 2) dX11_rename_2 qX11_isThing kX11_238 vX11_isThing (by exact isM.gx (by assumption)) rfl rfl (Nat.le_of_ble_eq_true rfl) ((m_isThing 0 hB0 ht ⟨by omega, by omega⟩).deeper (by omega)) (fun v_2 h_2 q_2 => ?_)
  obtain ⟨rfl, rfl⟩ := q_2
  refine rj_if_ne (pc := 5) (tgt := 10) dX11_rename_5 (by decide) (by first | assumption | exact b01_r | exact bz_r | omega | (constructor <;> omega) | exact hM _ | exact hPo _ | exact hTa _ | exact hRo _) (fun c_5 => ?_) (fun c_5 => ?_)
  · try simp only [b01_0, bz_0, Classical.not_not] at c_5
    refine r_aload_n (pc := 10) dX11_rename_10 rfl (by first | rfl | exact isRefV_rf _) ?_
    refine r_iload_n (pc := 11) dX11_rename_11 rfl ?_
    refine r_callV1 (pc := 12) dX11_rename_12 qX11_isHeld kX11_119 vX11_isHeld (by exact isM.gx (by assumption)) rfl rfl (Nat.le_of_ble_eq_true rfl) ((m_isHeld 0 hB0 hM (by omega) (by omega)).deeper (by omega)) (fun v_12 h_12 q_12 => ?_)
    obtain ⟨rfl, rfl⟩ := q_12
    refine rj_if_ne (pc := 15) (tgt := 21) dX11_rename_15 (by decide) (by first | assumption | exact b01_r | exact bz_r | omega | (constructor <;> omega) | exact hM _ | exact hPo _ | exact hTa _ | exact hRo _) (fun c_15 => ?_) (fun c_15 => ?_)
    · try simp only [b01_0, bz_0, Classical.not_not] at c_15
      refine r_aload_n (pc := 21) dX11_rename_21 rfl (by first | rfl | exact isRefV_rf _) ?_
      refine rm_getf (pc := 22) dX11_rename_22 fX11_61 (by assumption) rfl ?_
      refine r_istore_n (pc := 25) dX11_rename_25 (Nat.le_of_ble_eq_true rfl) ?_
      dsimp only [lsSt, List.set, mLs, mEnt]
      refine r_aload_n (pc := 26) dX11_rename_26 rfl (by first | rfl | exact isRefV_rf _) ?_
      refine rj_iconst (pc := 27) dX11_rename_27 ?_
      refine rm_putf (pc := 28) dX11_rename_28 fX11_61 (by assumption) rfl rfl (Nat.le_of_ble_eq_true rfl) (fun h_28 hB_28 hS_28 => ?_)
      dsimp only [List.set, mFs] at hB_28
      refine r_aload_n (pc := 31) dX11_rename_31 rfl (by first | rfl | exact isRefV_rf _) ?_
      refine r_aload_n (pc := 32) dX11_rename_32 rfl (by first | rfl | exact isRefV_rf _) ?_
      refine rm_getf (pc := 33) dX11_rename_33 fX11_24 (by assumption) rfl ?_
      refine rj_iconst (pc := 36) dX11_rename_36 ?_
      refine r_iload_n (pc := 37) dX11_rename_37 rfl ?_
      refine r_callV3 (pc := 38) dX11_rename_38 qX11_begins kX11_115 vX11_begins (by exact isM.gx (by assumption)) rfl rfl (Nat.le_of_ble_eq_true rfl) ((m_begins 0 (show isM h_28 x (mFs x f4 0 f8 f9 f10 f11 f12 f13 f14 f16 f18 s) m kp was pool tape pln pap rwd rw from hB_28)).deeper (by omega)) (fun v_38 h_38 q_38 => ?_)
      obtain ⟨rfl, hB_38, S_38⟩ := q_38
      have hQ_38 : isM h_38 x (mFs x f4 0 (ps0 f11 f12).1 f6 (ps0 f11 f12).2.1 (ps0 f11 f12).2.2.1 (ps0 f11 f12).2.2.2.1 (ps0 f11 f12).2.2.2.2 f14 f16 f18 4) m kp was pool tape pln pap rwd rw := hB_38
      refine r_aload_n (pc := 41) dX11_rename_41 rfl (by first | rfl | exact isRefV_rf _) ?_
      refine r_callV0 (pc := 42) dX11_rename_42 qX11_isName kX11_88 vX11_isName (by exact isM.gx (by assumption)) rfl rfl (Nat.le_of_ble_eq_true rfl) ((m_isName 0 hQ_38 hTx hq0).deeper (by omega)) (fun v_42 h_42 q_42 => ?_)
      obtain ⟨rfl, hB_42, S_42⟩ := q_42
      refine rj_if_eq (pc := 45) (tgt := 55) dX11_rename_45 (by decide) (by first | assumption | exact b01_r | exact bz_r | omega | (constructor <;> omega) | exact hM _ | exact hPo _ | exact hTa _ | exact hRo _) (fun c_45 => ?_) (fun c_45 => ?_)
      · try simp only [b01_0, bz_0, Classical.not_not] at c_45
        refine rj_bipush (pc := 55) dX11_rename_55 (by decide +kernel) ?_
        refine r_aload_n (pc := 57) dX11_rename_57 rfl (by first | rfl | exact isRefV_rf _) ?_
        refine rm_getf (pc := 58) dX11_rename_58 fX11_71 (by assumption) rfl ?_
        refine rj_isub (pc := 61) dX11_rename_61 ?_
        refine r_ireturn (pc := 62) .int dX11_rename_62 rfl (by first | rfl | assumption) ?_
        first
        | (have z1 : (renR tape f6 f11 f12).1 = false := by rw [hw1, if_neg c_45]
           have z2 : (renR tape f6 f11 f12).2 = (nameF tape f6 (ps0 f11 f12)) := by rw [hw2, if_neg c_45]
           have z3 : renF m tape t.toNat f6 f11 f12 = (-100 - (nameF tape f6 (ps0 f11 f12)).2.1, m) := by unfold renF; rw [if_neg (by rw [z1]; decide), z2]
           rw [z3]
           exact Or.inr ⟨⟨c_5, c_15⟩, rfl, hB_42.isMs ⟨hqn.2.2.2.2.1, hqn.2.2.2.2.2.1⟩, ((hS_28.trans S_38).trans S_42)⟩)
        | (have z1 : (renR tape f6 f11 f12).1 = false := by rw [hw1, if_pos c_45]; simpa using c_52
           have z2 : (renR tape f6 f11 f12).2 = (wholeR f6 (nameF tape f6 (ps0 f11 f12))).2 := by rw [hw2, if_pos c_45]
           have z3 : renF m tape t.toNat f6 f11 f12 = (-100 - (wholeR f6 (nameF tape f6 (ps0 f11 f12))).2.2.1, m) := by unfold renF; rw [if_neg (by rw [z1]; decide), z2]
           rw [z3]
           exact Or.inr ⟨⟨c_5, c_15⟩, rfl, hB_49.isMs ⟨hwo.2.2.2.2.1, hwo.2.2.2.2.2.1⟩, (((hS_28.trans S_38).trans S_42).trans S_49)⟩)
      · try simp only [b01_0, bz_0, Classical.not_not] at c_45
        refine r_aload_n (pc := 48) dX11_rename_48 rfl (by first | rfl | exact isRefV_rf _) ?_
        refine r_callV0 (pc := 49) dX11_rename_49 qX11_isWhole kX11_217 vX11_isWhole (by exact isM.gx (by assumption)) rfl rfl (Nat.le_of_ble_eq_true rfl) ((m_isWhole 0 hB_42 hTx hqn).deeper (by omega)) (fun v_49 h_49 q_49 => ?_)
        obtain ⟨rfl, hB_49, S_49⟩ := q_49
        have hwo := wholeR_ok hqn
        refine rj_if_ne (pc := 52) (tgt := 63) dX11_rename_52 (by decide) (by first | assumption | exact b01_r | exact bz_r | omega | (constructor <;> omega) | exact hM _ | exact hPo _ | exact hTa _ | exact hRo _) (fun c_52 => ?_) (fun c_52 => ?_)
        · try simp only [b01_0, bz_0, Classical.not_not] at c_52
          have z1 : (renR tape f6 f11 f12).1 = true := by rw [hw1, if_pos c_45]; simpa using c_52
          have z7 := renR_7 z1
          have rhb := hbL_r (m := m) (rc := tape) (fr := 0) (to := f6.toNat) (m 1).toNat 0
          refine r_aload_n (pc := 63) dX11_rename_63 rfl (by first | rfl | exact isRefV_rf _) ?_
          refine r_aload_n (pc := 64) dX11_rename_64 rfl (by first | rfl | exact isRefV_rf _) ?_
          refine rm_getf (pc := 65) dX11_rename_65 fX11_24 (by assumption) rfl ?_
          refine rj_iconst (pc := 68) dX11_rename_68 ?_
          refine r_iload_n (pc := 69) dX11_rename_69 rfl ?_
          refine r_callV3 (pc := 70) dX11_rename_70 qX11_heldBy kX11_163 vX11_heldBy (by exact isM.gx (by assumption)) rfl rfl (Nat.le_of_ble_eq_true rfl) (by have y := m_heldBy (G := G) (l := l) 0 hB_49 hM (rs := 4) (rc := tape) (fr := 0) (to := f6.toNat) (Or.inl ⟨rfl, rfl, by omega⟩) (by omega) hTa (N := (m 1).toNat) (by omega) (by omega) (fun t ht => k7 t (by omega)); rw [show ((f6.toNat : Nat) : Int) = f6 by omega] at y; exact y.deeper (by omega)) (fun v_70 h_70 q_70 => ?_)
          obtain ⟨rfl, rfl⟩ := q_70
          refine rj_if_lt (pc := 73) (tgt := 79) dX11_rename_73 (by decide) (by first | assumption | exact b01_r | exact bz_r | omega | (constructor <;> omega) | exact hM _ | exact hPo _ | exact hTa _ | exact hRo _) (fun c_73 => ?_) (fun c_73 => ?_)
          · refine r_aload_n (pc := 79) dX11_rename_79 rfl (by first | rfl | exact isRefV_rf _) ?_
            refine r_iload_n (pc := 80) dX11_rename_80 rfl ?_
            refine r_aload_n (pc := 81) dX11_rename_81 rfl (by first | rfl | exact isRefV_rf _) ?_
            refine rm_getf (pc := 82) dX11_rename_82 fX11_24 (by assumption) rfl ?_
            refine rj_iconst (pc := 85) dX11_rename_85 ?_
            refine r_iload_n (pc := 86) dX11_rename_86 rfl ?_
            refine r_callV4 (pc := 87) dX11_rename_87 qX11_names kX11_129 vX11_names (by exact isM.gx (by assumption)) rfl rfl (Nat.le_of_ble_eq_true rfl) (by have y := m_names (G := G) (l := l) 0 hB_49 (rs := 4) (rc := tape) (fr := 0) (to := f6.toNat) (Or.inl ⟨rfl, rfl, by omega⟩) (by omega) (by omega) (t := t.toNat) (by omega); rw [show ((f6.toNat : Nat) : Int) = f6 by omega, show ((t.toNat : Nat) : Int) = t by omega] at y; exact y.deeper (by omega)) (fun v_87 h_87 q_87 => ?_)
            obtain ⟨rfl, hB_87, S_87⟩ := q_87
            refine r_iload_n (pc := 90) dX11_rename_90 rfl ?_
            refine r_ireturn (pc := 91) .int dX11_rename_91 rfl (by first | rfl | assumption) ?_
            have z3 : renF m tape t.toNat f6 f11 f12 = (f6, namesM m tape t.toNat 0 f6.toNat) := by unfold renF; rw [if_pos z1, if_neg (by omega)]
            rw [z3]
            exact Or.inr ⟨⟨c_5, c_15⟩, rfl, hB_87.isMs ⟨hwo.2.2.2.2.1, hwo.2.2.2.2.2.1⟩, ((((hS_28.trans S_38).trans S_42).trans S_49).trans S_87)⟩
          · refine rj_bipush (pc := 76) dX11_rename_76 (by decide +kernel) ?_
            refine r_ireturn (pc := 78) .int dX11_rename_78 rfl (by first | rfl | assumption) ?_
            have z3 : renF m tape t.toNat f6 f11 f12 = (-3, m) := by unfold renF; rw [if_pos z1, if_pos (by omega)]
            rw [z3]
            exact Or.inr ⟨⟨c_5, c_15⟩, rfl, hB_49.isMs ⟨hwo.2.2.2.2.1, hwo.2.2.2.2.2.1⟩, (((hS_28.trans S_38).trans S_42).trans S_49)⟩
        · try simp only [b01_0, bz_0, Classical.not_not] at c_52
          refine rj_bipush (pc := 55) dX11_rename_55 (by decide +kernel) ?_
          refine r_aload_n (pc := 57) dX11_rename_57 rfl (by first | rfl | exact isRefV_rf _) ?_
          refine rm_getf (pc := 58) dX11_rename_58 fX11_71 (by assumption) rfl ?_
          refine rj_isub (pc := 61) dX11_rename_61 ?_
          refine r_ireturn (pc := 62) .int dX11_rename_62 rfl (by first | rfl | assumption) ?_
          first
          | (have z1 : (renR tape f6 f11 f12).1 = false := by rw [hw1, if_neg c_45]
             have z2 : (renR tape f6 f11 f12).2 = (nameF tape f6 (ps0 f11 f12)) := by rw [hw2, if_neg c_45]
             have z3 : renF m tape t.toNat f6 f11 f12 = (-100 - (nameF tape f6 (ps0 f11 f12)).2.1, m) := by unfold renF; rw [if_neg (by rw [z1]; decide), z2]
             rw [z3]
             exact Or.inr ⟨⟨c_5, c_15⟩, rfl, hB_42.isMs ⟨hqn.2.2.2.2.1, hqn.2.2.2.2.2.1⟩, ((hS_28.trans S_38).trans S_42)⟩)
          | (have z1 : (renR tape f6 f11 f12).1 = false := by rw [hw1, if_pos c_45]; simpa using c_52
             have z2 : (renR tape f6 f11 f12).2 = (wholeR f6 (nameF tape f6 (ps0 f11 f12))).2 := by rw [hw2, if_pos c_45]
             have z3 : renF m tape t.toNat f6 f11 f12 = (-100 - (wholeR f6 (nameF tape f6 (ps0 f11 f12))).2.2.1, m) := by unfold renF; rw [if_neg (by rw [z1]; decide), z2]
             rw [z3]
             exact Or.inr ⟨⟨c_5, c_15⟩, rfl, hB_49.isMs ⟨hwo.2.2.2.2.1, hwo.2.2.2.2.2.1⟩, (((hS_28.trans S_38).trans S_42).trans S_49)⟩)
    · try simp only [b01_0, bz_0, Classical.not_not] at c_15
      refine rj_bipush (pc := 18) dX11_rename_18 (by decide +kernel) ?_
      refine r_ireturn (pc := 20) .int dX11_rename_20 rfl (by first | rfl | assumption) ?_
      exact Or.inl ⟨fun g => c_15 g.2, by rw [show closeN m t = -3 from if_pos c_5], rfl⟩
  · try simp only [b01_0, bz_0, Classical.not_not] at c_5
    refine rj_iconst (pc := 8) dX11_rename_8 ?_
    refine r_ireturn (pc := 9) .int dX11_rename_9 rfl (by first | rfl | assumption) ?_
    exact Or.inl ⟨fun g => c_5 g.1, by rw [show closeN m t = -1 from if_neg c_5], rfl⟩
def takeF (m pool tape : Nat → Int) (a : Int) (len E : Nat) (r : Bool × PS) : Int × (Nat → Int) × (Nat → Int) :=
  if (wR len r).1 = true then (if m 1 = 90 then (-4, m, pool) else (if 0 ≤ hbL m tape 0 E (m 1).toNat 0 then (-3, m, pool) else
    (m 1, if E = len then (takesM m tape (m 1).toNat a 0 E 0 0, pool) else (takesM (updI m 8 (m 8 + (len - (E + 1) : Nat) + 1)) tape (m 1).toNat a 0 E (m 8) (m 8 + len - E - 1), pooledP pool tape (m 8).toNat (E + 1) len))))
  else (-100 - (wR len r).2.2.1, m, pool)
set_option maxHeartbeats 4000000 in
set_option maxRecDepth 100000 in
theorem L_takeT {G : mG} {l : Launch} {h : mH} {x len E : Nat} {f4 f14 f16 f18 : Int} {m kp was pool tape pln pap rwd rw : Nat → Int} {r : Bool × PS} (hB : isM h x (mFs x f4 0 r.2.1 (len : Int) r.2.2.1 r.2.2.2.1 r.2.2.2.2.1 r.2.2.2.2.2 f14 f16 f18 4) m kp was pool tape pln pap rwd rw) (hok : mOk m) (hT : bytesOk tape) (hl : len ≤ 120) (hq : psOk len r.2) (h8 : 0 ≤ m 8 ∧ m 8 + 130 ≤ 12342) (hE : E ≤ len) (hE7 : E ≤ 7) {a : Int} : RUN G l 40 mX11_take 82 [some (.ref x), some (.int (J a)), some (.int (J (len : Int))), some (.int (J (bz r.1))), some (.int (J (E : Int))), none] [] h (fun v h' => v = some (.int (J (takeF m pool tape a len E r).1)) ∧ isMs h' x f4 0 f14 f16 f18 (takeF m pool tape a len E r).2.1 kp was (takeF m pool tape a len E r).2.2 tape pln pap rwd rw ∧ Same (mBlk x) h h') := by
  obtain ⟨hM, k0, k1, k2, k3, k4, k5, k7⟩ := id hok
  have hB0 := hB
  have hTx : txOk 4 tape pool tape (len : Int) := ⟨Or.inl ⟨rfl, rfl, by omega⟩, by omega, hT⟩
  have hTa : ∀ q, InR (tape q) := fun q => by have := hT q; exact ⟨by omega, by omega⟩
  have hwo := wholeR_ok hq
  have r1 := hM 1
  dsimp only [mFs] at hB
  refine r_iload_n (pc := 82) dX11_take_82 rfl ?_
  refine rj_if_eq (pc := 83) (tgt := 93) dX11_take_83 (by decide) (by first | assumption | exact b01_r | exact bz_r | omega | (constructor <;> omega) | exact hM _ | exact hPo _ | exact hTa _ | exact hRo _) (fun c_83 => ?_) (fun c_83 => ?_)
  · try simp only [b01_0, bz_0, Classical.not_not] at c_83
    refine rj_bipush (pc := 93) dX11_take_93 (by decide +kernel) ?_
    refine r_aload_n (pc := 95) dX11_take_95 rfl (by first | rfl | exact isRefV_rf _) ?_
    refine rm_getf (pc := 96) dX11_take_96 fX11_71 (by assumption) rfl ?_
    refine rj_isub (pc := 99) dX11_take_99 ?_
    refine r_ireturn (pc := 100) .int dX11_take_100 rfl (by first | rfl | assumption) ?_
    first
    | (have z0 : r.1 = false := by simpa using c_83
       have z1 : wR len r = r := by unfold wR; rw [if_neg (by rw [z0]; decide)]
       have z3 : takeF m pool tape a len E r = (-100 - r.2.2.1, m, pool) := by unfold takeF; rw [z1, if_neg (by rw [z0]; decide)]
       rw [z3]
       exact ⟨rfl, hB0.isMs ⟨hq.2.2.2.2.1, hq.2.2.2.2.2.1⟩, Same.refl⟩)
    | (have z0 : r.1 = true := by simpa using c_83
       have z1 : wR len r = wholeR len r.2 := by unfold wR; rw [if_pos z0]
       have z2 : (wholeR len r.2).1 = false := by simpa using c_90
       have z3 : takeF m pool tape a len E r = (-100 - (wholeR len r.2).2.2.1, m, pool) := by unfold takeF; rw [z1, if_neg (by rw [z2]; decide)]
       rw [z3]
       exact ⟨rfl, hB_87.isMs ⟨hwo.2.2.2.2.1, hwo.2.2.2.2.2.1⟩, S_87⟩)
  · try simp only [b01_0, bz_0, Classical.not_not] at c_83
    refine r_aload_n (pc := 86) dX11_take_86 rfl (by first | rfl | exact isRefV_rf _) ?_
    refine r_callV0 (pc := 87) dX11_take_87 qX11_isWhole kX11_217 vX11_isWhole (by exact isM.gx (by assumption)) rfl rfl (Nat.le_of_ble_eq_true rfl) ((m_isWhole 0 hB0 hTx hq).deeper (by omega)) (fun v_87 h_87 q_87 => ?_)
    obtain ⟨rfl, hB_87, S_87⟩ := q_87
    refine rj_if_ne (pc := 90) (tgt := 101) dX11_take_90 (by decide) (by first | assumption | exact b01_r | exact bz_r | omega | (constructor <;> omega) | exact hM _ | exact hPo _ | exact hTa _ | exact hRo _) (fun c_90 => ?_) (fun c_90 => ?_)
    · try simp only [b01_0, bz_0, Classical.not_not] at c_90
      have z0 : r.1 = true := by simpa using c_83
      have zw : (wR len r).1 = true := by unfold wR; rw [if_pos z0]; simpa using c_90
      have rhb := hbL_r (m := m) (rc := tape) (fr := 0) (to := E) (m 1).toNat 0
      refine r_aload_n (pc := 101) dX11_take_101 rfl (by first | rfl | exact isRefV_rf _) ?_
      refine rm_getf (pc := 102) dX11_take_102 fX11_11 (by assumption) rfl ?_
      refine rj_iconst (pc := 105) dX11_take_105 ?_
      refine rj_iald (pc := 106) (j := 1) dX11_take_106 (by first | exact isM.g0 (by assumption) | exact isM.g3 (by assumption) | exact isM.g4 (by assumption) | exact isM.g8 (by assumption) | exact isM.g7 (by assumption) | exact isM.g6 (by assumption) | exact isM.g5 (by assumption) | exact isM.g1 (by assumption) | exact isM.g2 (by assumption)) (by first | assumption | exact b01_r | exact bz_r | omega | (constructor <;> omega) | exact hM _ | exact hPo _ | exact hTa _ | exact hRo _) (by first | assumption | exact b01_r | exact bz_r | omega | (constructor <;> omega) | exact hM _ | exact hPo _ | exact hTa _ | exact hRo _) (by first | assumption | exact b01_r | exact bz_r | omega | (constructor <;> omega) | exact hM _ | exact hPo _ | exact hTa _ | exact hRo _) (by omega) ?_
      refine rj_bipush (pc := 107) dX11_take_107 (by decide +kernel) ?_
      refine rj_icmp_ne (pc := 109) (tgt := 115) dX11_take_109 (by decide) (by first | assumption | exact b01_r | exact bz_r | omega | (constructor <;> omega) | exact hM _ | exact hPo _ | exact hTa _ | exact hRo _) (by first | assumption | exact b01_r | exact bz_r | omega | (constructor <;> omega) | exact hM _ | exact hPo _ | exact hTa _ | exact hRo _) (fun c_109 => ?_) (fun c_109 => ?_)
      · refine r_aload_n (pc := 115) dX11_take_115 rfl (by first | rfl | exact isRefV_rf _) ?_
        refine r_aload_n (pc := 116) dX11_take_116 rfl (by first | rfl | exact isRefV_rf _) ?_
        refine rm_getf (pc := 117) dX11_take_117 fX11_24 (by assumption) rfl ?_
        refine rj_iconst (pc := 120) dX11_take_120 ?_
        refine r_iload (pc := 121) dX11_take_121 rfl ?_
        refine r_callV3 (pc := 123) dX11_take_123 qX11_heldBy kX11_163 vX11_heldBy (by exact isM.gx (by assumption)) rfl rfl (Nat.le_of_ble_eq_true rfl) (by have y := m_heldBy (G := G) (l := l) 0 hB_87 hM (rs := 4) (rc := tape) (fr := 0) (to := E) (Or.inl ⟨rfl, rfl, by omega⟩) (by omega) hTa (N := (m 1).toNat) (by omega) (by omega) (fun t ht => k7 t (by omega)); exact y.deeper (by omega)) (fun v_123 h_123 q_123 => ?_)
        obtain ⟨rfl, rfl⟩ := q_123
        refine rj_if_lt (pc := 126) (tgt := 132) dX11_take_126 (by decide) (by first | assumption | exact b01_r | exact bz_r | omega | (constructor <;> omega) | exact hM _ | exact hPo _ | exact hTa _ | exact hRo _) (fun c_126 => ?_) (fun c_126 => ?_)
        · refine r_iload (pc := 132) dX11_take_132 rfl ?_
          refine r_iload_n (pc := 134) dX11_take_134 rfl ?_
          refine rj_icmp_ne (pc := 135) (tgt := 142) dX11_take_135 (by decide) (by first | assumption | exact b01_r | exact bz_r | omega | (constructor <;> omega) | exact hM _ | exact hPo _ | exact hTa _ | exact hRo _) (by first | assumption | exact b01_r | exact bz_r | omega | (constructor <;> omega) | exact hM _ | exact hPo _ | exact hTa _ | exact hRo _) (fun c_135 => ?_) (fun c_135 => ?_)
          · refine r_aload_n (pc := 142) dX11_take_142 rfl (by first | rfl | exact isRefV_rf _) ?_
            refine r_iload (pc := 143) dX11_take_143 rfl ?_
            refine rj_iconst (pc := 145) dX11_take_145 ?_
            refine rj_iadd (pc := 146) dX11_take_146 ?_
            refine r_iload_n (pc := 147) dX11_take_147 rfl ?_
            refine r_callV2 (pc := 148) dX11_take_148 qX11_pooled kX11_220 vX11_pooled (by exact isM.gx (by assumption)) rfl rfl (Nat.le_of_ble_eq_true rfl) (by have y := m_pooled (G := G) (l := l) 0 hB_87 (a := E + 1) (b := len) (p := (m 8).toNat) hTa (by omega) (by omega) (by omega) (by omega); rw [show ((E + 1 : Nat) : Int) = (E : Int) + 1 by omega] at y; exact y.deeper (by omega)) (fun v_148 h_148 q_148 => ?_)
            obtain ⟨rfl, hB_148, S_148⟩ := q_148
            refine r_istore (pc := 151) dX11_take_151 (Nat.le_of_ble_eq_true rfl) ?_
            dsimp only [lsSt, List.set, mLs, mEnt]
            refine r_aload_n (pc := 153) dX11_take_153 rfl (by first | rfl | exact isRefV_rf _) ?_
            refine r_iload_n (pc := 154) dX11_take_154 rfl ?_
            refine r_aload_n (pc := 155) dX11_take_155 rfl (by first | rfl | exact isRefV_rf _) ?_
            refine rm_getf (pc := 156) dX11_take_156 fX11_24 (by assumption) rfl ?_
            refine rj_iconst (pc := 159) dX11_take_159 ?_
            refine r_iload (pc := 160) dX11_take_160 rfl ?_
            refine r_iload (pc := 162) dX11_take_162 rfl ?_
            refine r_iload (pc := 164) dX11_take_164 rfl ?_
            refine r_iload_n (pc := 166) dX11_take_166 rfl ?_
            refine rj_icmp_ne (pc := 167) (tgt := 174) dX11_take_167 (by decide) (by first | assumption | exact b01_r | exact bz_r | omega | (constructor <;> omega) | exact hM _ | exact hPo _ | exact hTa _ | exact hRo _) (by first | assumption | exact b01_r | exact bz_r | omega | (constructor <;> omega) | exact hM _ | exact hPo _ | exact hTa _ | exact hRo _) (fun c_167 => ?_) (fun c_167 => ?_)
            · refine r_iload (pc := 174) dX11_take_174 rfl ?_
              refine r_iload_n (pc := 176) dX11_take_176 rfl ?_
              refine rj_iadd (pc := 177) dX11_take_177 ?_
              refine r_iload (pc := 178) dX11_take_178 rfl ?_
              refine rj_isub (pc := 180) dX11_take_180 ?_
              refine rj_iconst (pc := 181) dX11_take_181 ?_
              refine rj_isub (pc := 182) dX11_take_182 ?_
              refine r_callV6 (pc := 183) dX11_take_183 qX11_takes kX11_167 vX11_takes (by exact isM.gx (by assumption)) rfl rfl (Nat.le_of_ble_eq_true rfl) (by have y := m_takes (G := G) (l := l) 0 hB_148 (rs := 4) (rc := tape) (fr := 0) (to := E) (Or.inl ⟨rfl, rfl, by omega⟩) (by omega) (by omega) (N := (m 1).toNat) (by rw [updI_n (by decide)]; omega) (by omega) (o := a) (p := ((m 8).toNat : Int)) (e := (((m 8).toNat : Int) + (len : Int) - (E : Int) - 1)); exact y.deeper (by omega)) (fun v_183 h_183 q_183 => ?_)
              obtain ⟨rfl, hB_183, S_183⟩ := q_183
              refine r_ireturn (pc := 186) .int dX11_take_186 rfl (by first | rfl | assumption) ?_
              first
              | (have z3 : takeF m pool tape a len E r = (m 1, takesM m tape (m 1).toNat a 0 E 0 0, pool) := by unfold takeF; rw [if_pos zw, if_neg c_109, if_neg (by omega), if_pos (by omega)]
                 rw [z3]
                 exact ⟨by congr 3; omega, hB_183.isMs ⟨hwo.2.2.2.2.1, hwo.2.2.2.2.2.1⟩, S_87.trans S_183⟩)
              | (have z8 : ((m 8).toNat : Int) = m 8 := by omega
                 rw [z8] at hB_183
                 have z3 : takeF m pool tape a len E r = (m 1, takesM (updI m 8 (m 8 + (len - (E + 1) : Nat) + 1)) tape (m 1).toNat a 0 E (m 8) (m 8 + len - E - 1), pooledP pool tape (m 8).toNat (E + 1) len) := by unfold takeF; rw [if_pos zw, if_neg c_109, if_neg (by omega), if_neg (by omega)]
                 rw [z3]
                 exact ⟨by congr 3; omega, hB_183.isMs ⟨hwo.2.2.2.2.1, hwo.2.2.2.2.2.1⟩, (S_87.trans S_148).trans S_183⟩)
            · exfalso; omega
          · refine rj_iconst (pc := 138) dX11_take_138 ?_
            refine r_goto (pc := 139) (tgt := 151) dX11_take_139 (by decide) ?_
            refine r_istore (pc := 151) dX11_take_151 (Nat.le_of_ble_eq_true rfl) ?_
            dsimp only [lsSt, List.set, mLs, mEnt]
            refine r_aload_n (pc := 153) dX11_take_153 rfl (by first | rfl | exact isRefV_rf _) ?_
            refine r_iload_n (pc := 154) dX11_take_154 rfl ?_
            refine r_aload_n (pc := 155) dX11_take_155 rfl (by first | rfl | exact isRefV_rf _) ?_
            refine rm_getf (pc := 156) dX11_take_156 fX11_24 (by assumption) rfl ?_
            refine rj_iconst (pc := 159) dX11_take_159 ?_
            refine r_iload (pc := 160) dX11_take_160 rfl ?_
            refine r_iload (pc := 162) dX11_take_162 rfl ?_
            refine r_iload (pc := 164) dX11_take_164 rfl ?_
            refine r_iload_n (pc := 166) dX11_take_166 rfl ?_
            refine rj_icmp_ne (pc := 167) (tgt := 174) dX11_take_167 (by decide) (by first | assumption | exact b01_r | exact bz_r | omega | (constructor <;> omega) | exact hM _ | exact hPo _ | exact hTa _ | exact hRo _) (by first | assumption | exact b01_r | exact bz_r | omega | (constructor <;> omega) | exact hM _ | exact hPo _ | exact hTa _ | exact hRo _) (fun c_167 => ?_) (fun c_167 => ?_)
            · exfalso; omega
            · refine rj_iconst (pc := 170) dX11_take_170 ?_
              refine r_goto (pc := 171) (tgt := 183) dX11_take_171 (by decide) ?_
              refine r_callV6 (pc := 183) dX11_take_183 qX11_takes kX11_167 vX11_takes (by exact isM.gx (by assumption)) rfl rfl (Nat.le_of_ble_eq_true rfl) (by have y := m_takes (G := G) (l := l) 0 hB_87 (rs := 4) (rc := tape) (fr := 0) (to := E) (Or.inl ⟨rfl, rfl, by omega⟩) (by omega) (by omega) (N := (m 1).toNat) (by omega) (by omega) (o := a) (p := 0) (e := 0); exact y.deeper (by omega)) (fun v_183 h_183 q_183 => ?_)
              obtain ⟨rfl, hB_183, S_183⟩ := q_183
              refine r_ireturn (pc := 186) .int dX11_take_186 rfl (by first | rfl | assumption) ?_
              first
              | (have z3 : takeF m pool tape a len E r = (m 1, takesM m tape (m 1).toNat a 0 E 0 0, pool) := by unfold takeF; rw [if_pos zw, if_neg c_109, if_neg (by omega), if_pos (by omega)]
                 rw [z3]
                 exact ⟨by congr 3; omega, hB_183.isMs ⟨hwo.2.2.2.2.1, hwo.2.2.2.2.2.1⟩, S_87.trans S_183⟩)
              | (have z8 : ((m 8).toNat : Int) = m 8 := by omega
                 rw [z8] at hB_183
                 have z3 : takeF m pool tape a len E r = (m 1, takesM (updI m 8 (m 8 + (len - (E + 1) : Nat) + 1)) tape (m 1).toNat a 0 E (m 8) (m 8 + len - E - 1), pooledP pool tape (m 8).toNat (E + 1) len) := by unfold takeF; rw [if_pos zw, if_neg c_109, if_neg (by omega), if_neg (by omega)]
                 rw [z3]
                 exact ⟨by congr 3; omega, hB_183.isMs ⟨hwo.2.2.2.2.1, hwo.2.2.2.2.2.1⟩, (S_87.trans S_148).trans S_183⟩)
        · refine rj_bipush (pc := 129) dX11_take_129 (by decide +kernel) ?_
          refine r_ireturn (pc := 131) .int dX11_take_131 rfl (by first | rfl | assumption) ?_
          have z3 : takeF m pool tape a len E r = (-3, m, pool) := by unfold takeF; rw [if_pos zw, if_neg c_109, if_pos (by omega)]
          rw [z3]
          exact ⟨rfl, hB_87.isMs ⟨hwo.2.2.2.2.1, hwo.2.2.2.2.2.1⟩, S_87⟩
      · refine rj_bipush (pc := 112) dX11_take_112 (by decide +kernel) ?_
        refine r_ireturn (pc := 114) .int dX11_take_114 rfl (by first | rfl | assumption) ?_
        have z3 : takeF m pool tape a len E r = (-4, m, pool) := by unfold takeF; rw [if_pos zw, if_pos c_109]
        rw [z3]
        exact ⟨rfl, hB_87.isMs ⟨hwo.2.2.2.2.1, hwo.2.2.2.2.2.1⟩, S_87⟩
    · try simp only [b01_0, bz_0, Classical.not_not] at c_90
      refine rj_bipush (pc := 93) dX11_take_93 (by decide +kernel) ?_
      refine r_aload_n (pc := 95) dX11_take_95 rfl (by first | rfl | exact isRefV_rf _) ?_
      refine rm_getf (pc := 96) dX11_take_96 fX11_71 (by assumption) rfl ?_
      refine rj_isub (pc := 99) dX11_take_99 ?_
      refine r_ireturn (pc := 100) .int dX11_take_100 rfl (by first | rfl | assumption) ?_
      first
      | (have z0 : r.1 = false := by simpa using c_83
         have z1 : wR len r = r := by unfold wR; rw [if_neg (by rw [z0]; decide)]
         have z3 : takeF m pool tape a len E r = (-100 - r.2.2.1, m, pool) := by unfold takeF; rw [z1, if_neg (by rw [z0]; decide)]
         rw [z3]
         exact ⟨rfl, hB0.isMs ⟨hq.2.2.2.2.1, hq.2.2.2.2.2.1⟩, Same.refl⟩)
      | (have z0 : r.1 = true := by simpa using c_83
         have z1 : wR len r = wholeR len r.2 := by unfold wR; rw [if_pos z0]
         have z2 : (wholeR len r.2).1 = false := by simpa using c_90
         have z3 : takeF m pool tape a len E r = (-100 - (wholeR len r.2).2.2.1, m, pool) := by unfold takeF; rw [z1, if_neg (by rw [z2]; decide)]
         rw [z3]
         exact ⟨rfl, hB_87.isMs ⟨hwo.2.2.2.2.1, hwo.2.2.2.2.2.1⟩, S_87⟩)
/-- what take() reads: whether it goes on, and how; where the name ends -/
def takeR (tape : Nat → Int) (len f11 f12 : Int) : Bool × PS := if nameB tape len (ps0 f11 f12) ∧ hereF tape len (nameF tape len (ps0 f11 f12)).1 = 61 then stepsW tape len 1 false (advF (nameF tape len (ps0 f11 f12))) else (decide (nameB tape len (ps0 f11 f12)), nameF tape len (ps0 f11 f12))
def takeE (tape : Nat → Int) (len f11 f12 : Int) : Nat := (nameF tape len (ps0 f11 f12)).1.toNat
theorem nameF_e {tape : Nat → Int} {len f11 f12 : Int} (h : 0 ≤ len) (h11 : 0 ≤ f11 ∧ f11 ≤ 99999) : (takeE tape len f11 f12 : Int) = (nameF tape len (ps0 f11 f12)).1 ∧ takeE tape len f11 f12 ≤ 7 ∧ (takeE tape len f11 f12 : Int) ≤ len := by
  have hn := name_ok (sr := tape) (ps0_ok (f11 := f11) (f12 := f12) h h11)
  have h0 := hn.1
  have h1 := hn.2.1
  have d : (nameF tape len (ps0 f11 f12)).1 ≤ 7 := by
    unfold nameF
    split
    · exact nameL_d 7 (ps0 f11 f12)
    · show (0 : Int) ≤ 7; decide
  unfold takeE
  omega
def openN (m : Nat → Int) (a : Int) : Int := if 0 ≤ a ∧ a ≤ m 0 - 1 then -3 else -1
set_option maxHeartbeats 4000000 in
set_option maxRecDepth 100000 in
theorem m_take {G : mG} {l : Launch} {h : mH} {x s : Nat} {f4 f6 f8 f9 f10 f11 f12 f13 f14 f16 f18 : Int} {m kp was pool tape pln pap rwd rw : Nat → Int}(hB : isM h x (mFs x f4 f6 f8 f9 f10 f11 f12 f13 f14 f16 f18 s) m kp was pool tape pln pap rwd rw) (hok : mOk m) (hT : bytesOk tape) (h6 : 0 ≤ f6 ∧ f6 ≤ 120) (h11 : 0 ≤ f11 ∧ f11 ≤ 99999) (h8 : 0 ≤ m 8 ∧ m 8 + 130 ≤ 12342) {a : Int} (ha : InR a) : RUNM G l 41 mX11_take [.ref x, .int (J a)] h (fun v h' => (¬ openP m a ∧ v = some (.int (J (openN m a))) ∧ h' = h) ∨ (openP m a ∧ v = some (.int (J (takeF m pool tape a f6.toNat (takeE tape f6 f11 f12) (takeR tape f6 f11 f12)).1)) ∧ isMs h' x f4 0 f14 f16 f18 (takeF m pool tape a f6.toNat (takeE tape f6 f11 f12) (takeR tape f6 f11 f12)).2.1 kp was (takeF m pool tape a f6.toNat (takeE tape f6 f11 f12) (takeR tape f6 f11 f12)).2.2 tape pln pap rwd rw ∧ Same (mBlk x) h h')) := by
  obtain ⟨hM, k0, k1, k2, k3, k4, k5, k7⟩ := id hok
  have hB0 := hB
  have hTx : txOk 4 tape pool tape f6 := ⟨Or.inl ⟨rfl, rfl, h6.2⟩, h6.1, hT⟩
  have hq0 : psOk f6 (ps0 f11 f12) := ps0_ok h6.1 h11
  have hqn := name_ok (sr := tape) hq0
  obtain ⟨e1, e2, e3⟩ := nameF_e (tape := tape) (f12 := f12) h6.1 h11
  have ef : ((f6.toNat : Nat) : Int) = f6 := by omega
  dsimp only [mFs] at hB
  refine RUNM.of (by decide +kernel) (Nat.le_of_ble_eq_true rfl) ?_
  refine r_aload_n (pc := 0) dX11_take_0 rfl (by first | rfl | exact isRefV_rf _) ?_
  refine r_iload_n (pc := 1) dX11_take_1 rfl ?_
  refine r_callV1 (pc := 2) dX11_take_2 qX11_isScope kX11_50 vX11_isScope (by exact isM.gx (by assumption)) rfl rfl (Nat.le_of_ble_eq_true rfl) ((m_isScope 0 hB0 ha ⟨by omega, by omega⟩).deeper (by omega)) (fun v_2 h_2 q_2 => ?_)
  obtain ⟨rfl, rfl⟩ := q_2
  refine rj_if_ne (pc := 5) (tgt := 10) dX11_take_5 (by decide) (by first | assumption | exact b01_r | exact bz_r | omega | (constructor <;> omega) | exact hM _ | exact hPo _ | exact hTa _ | exact hRo _) (fun c_5 => ?_) (fun c_5 => ?_)
  · try simp only [b01_0, bz_0, Classical.not_not] at c_5
    refine r_aload_n (pc := 10) dX11_take_10 rfl (by first | rfl | exact isRefV_rf _) ?_
    refine r_iload_n (pc := 11) dX11_take_11 rfl ?_
    refine r_callV1 (pc := 12) dX11_take_12 qX11_isOpen kX11_146 vX11_isOpen (by exact isM.gx (by assumption)) rfl rfl (Nat.le_of_ble_eq_true rfl) ((m_isOpen 0 hB0 hM k0 ha).deeper (by omega)) (fun v_12 h_12 q_12 => ?_)
    obtain ⟨rfl, rfl⟩ := q_12
    refine rj_if_ne (pc := 15) (tgt := 21) dX11_take_15 (by decide) (by first | assumption | exact b01_r | exact bz_r | omega | (constructor <;> omega) | exact hM _ | exact hPo _ | exact hTa _ | exact hRo _) (fun c_15 => ?_) (fun c_15 => ?_)
    · try simp only [b01_0, bz_0, Classical.not_not] at c_15
      refine r_aload_n (pc := 21) dX11_take_21 rfl (by first | rfl | exact isRefV_rf _) ?_
      refine rm_getf (pc := 22) dX11_take_22 fX11_61 (by assumption) rfl ?_
      refine r_istore_n (pc := 25) dX11_take_25 (Nat.le_of_ble_eq_true rfl) ?_
      dsimp only [lsSt, List.set, mLs, mEnt]
      refine r_aload_n (pc := 26) dX11_take_26 rfl (by first | rfl | exact isRefV_rf _) ?_
      refine rj_iconst (pc := 27) dX11_take_27 ?_
      refine rm_putf (pc := 28) dX11_take_28 fX11_61 (by assumption) rfl rfl (Nat.le_of_ble_eq_true rfl) (fun h_28 hB_28 hS_28 => ?_)
      dsimp only [List.set, mFs] at hB_28
      refine r_aload_n (pc := 31) dX11_take_31 rfl (by first | rfl | exact isRefV_rf _) ?_
      refine r_aload_n (pc := 32) dX11_take_32 rfl (by first | rfl | exact isRefV_rf _) ?_
      refine rm_getf (pc := 33) dX11_take_33 fX11_24 (by assumption) rfl ?_
      refine rj_iconst (pc := 36) dX11_take_36 ?_
      refine r_iload_n (pc := 37) dX11_take_37 rfl ?_
      refine r_callV3 (pc := 38) dX11_take_38 qX11_begins kX11_115 vX11_begins (by exact isM.gx (by assumption)) rfl rfl (Nat.le_of_ble_eq_true rfl) ((m_begins 0 (show isM h_28 x (mFs x f4 0 f8 f9 f10 f11 f12 f13 f14 f16 f18 s) m kp was pool tape pln pap rwd rw from hB_28)).deeper (by omega)) (fun v_38 h_38 q_38 => ?_)
      obtain ⟨rfl, hB_38, S_38⟩ := q_38
      have hQ_38 : isM h_38 x (mFs x f4 0 (ps0 f11 f12).1 f6 (ps0 f11 f12).2.1 (ps0 f11 f12).2.2.1 (ps0 f11 f12).2.2.2.1 (ps0 f11 f12).2.2.2.2 f14 f16 f18 4) m kp was pool tape pln pap rwd rw := hB_38
      refine r_aload_n (pc := 41) dX11_take_41 rfl (by first | rfl | exact isRefV_rf _) ?_
      refine r_callV0 (pc := 42) dX11_take_42 qX11_isName kX11_88 vX11_isName (by exact isM.gx (by assumption)) rfl rfl (Nat.le_of_ble_eq_true rfl) ((m_isName 0 hQ_38 hTx hq0).deeper (by omega)) (fun v_42 h_42 q_42 => ?_)
      obtain ⟨rfl, hB_42, S_42⟩ := q_42
      refine r_istore_n (pc := 45) dX11_take_45 (Nat.le_of_ble_eq_true rfl) ?_
      dsimp only [lsSt, List.set, mLs, mEnt]
      refine r_aload_n (pc := 46) dX11_take_46 rfl (by first | rfl | exact isRefV_rf _) ?_
      refine rm_getf (pc := 47) dX11_take_47 fX11_65 (by assumption) rfl ?_
      refine r_istore (pc := 50) dX11_take_50 (Nat.le_of_ble_eq_true rfl) ?_
      dsimp only [lsSt, List.set, mLs, mEnt]
      refine r_iload_n (pc := 52) dX11_take_52 rfl ?_
      refine rj_if_eq (pc := 53) (tgt := 82) dX11_take_53 (by decide) (by first | assumption | exact b01_r | exact bz_r | omega | (constructor <;> omega) | exact hM _ | exact hPo _ | exact hTa _ | exact hRo _) (fun c_53 => ?_) (fun c_53 => ?_)
      · try simp only [b01_0, bz_0, Classical.not_not] at c_53
        have zr : takeR tape f6 f11 f12 = (false, (nameF tape f6 (ps0 f11 f12))) := by unfold takeR; rw [if_neg (fun g => c_53 g.1), decide_eq_false c_53]
        rw [show b01 (nameB tape f6 (ps0 f11 f12)) = bz false from (if_neg c_53).trans rfl]
        have y := L_takeT (G := G) (l := l) (len := f6.toNat) (E := takeE tape f6 f11 f12) (r := takeR tape f6 f11 f12) (a := a) (by rw [zr, ef]; exact hB_42) hok hT (by omega) (by rw [zr, ef]; exact hqn) h8 (by omega) e2
        rw [ef, e1, zr] at y
        rw [zr]
        exact (y.deeper (by omega)).mono (fun v h' q => Or.inr ⟨c_15, q.1, q.2.1, ((hS_28.trans S_38).trans S_42).trans q.2.2⟩)
      · try simp only [b01_0, bz_0, Classical.not_not] at c_53
        refine r_aload_n (pc := 56) dX11_take_56 rfl (by first | rfl | exact isRefV_rf _) ?_
        have rh := here_r hTx (nameF tape f6 (ps0 f11 f12)).1
        refine r_callV0 (pc := 57) dX11_take_57 qX11_here kX11_74 vX11_here (by exact isM.gx (by assumption)) rfl rfl (Nat.le_of_ble_eq_true rfl) ((m_here 0 hB_42 hTx hqn).deeper (by omega)) (fun v_57 h_57 q_57 => ?_)
        obtain ⟨rfl, rfl⟩ := q_57
        refine rj_bipush (pc := 60) dX11_take_60 (by decide +kernel) ?_
        refine rj_icmp_ne (pc := 62) (tgt := 82) dX11_take_62 (by decide) (by first | assumption | exact b01_r | exact bz_r | omega | (constructor <;> omega) | exact hM _ | exact hPo _ | exact hTa _ | exact hRo _) (by first | assumption | exact b01_r | exact bz_r | omega | (constructor <;> omega) | exact hM _ | exact hPo _ | exact hTa _ | exact hRo _) (fun c_62 => ?_) (fun c_62 => ?_)
        · have zr : takeR tape f6 f11 f12 = (true, (nameF tape f6 (ps0 f11 f12))) := by unfold takeR; rw [if_neg (fun g => c_62 g.2), decide_eq_true c_53]
          rw [show b01 (nameB tape f6 (ps0 f11 f12)) = bz true from (if_pos c_53).trans rfl]
          have y := L_takeT (G := G) (l := l) (len := f6.toNat) (E := takeE tape f6 f11 f12) (r := takeR tape f6 f11 f12) (a := a) (by rw [zr, ef]; exact hB_42) hok hT (by omega) (by rw [zr, ef]; exact hqn) h8 (by omega) e2
          rw [ef, e1, zr] at y
          rw [zr]
          exact (y.deeper (by omega)).mono (fun v h' q => Or.inr ⟨c_15, q.1, q.2.1, ((hS_28.trans S_38).trans S_42).trans q.2.2⟩)
        · refine r_aload_n (pc := 65) dX11_take_65 rfl (by first | rfl | exact isRefV_rf _) ?_
          refine r_dup (pc := 66) dX11_take_66 (by first | rfl | (cases ‹Option Nat› <;> rfl)) ?_
          refine rm_getf (pc := 67) dX11_take_67 fX11_65 (by assumption) rfl ?_
          refine rj_iconst (pc := 70) dX11_take_70 ?_
          refine rj_iadd (pc := 71) dX11_take_71 ?_
          refine rm_putf (pc := 72) dX11_take_72 fX11_65 (by assumption) rfl rfl (Nat.le_of_ble_eq_true rfl) (fun h_72 hB_72 hS_72 => ?_)
          dsimp only [List.set, mFs] at hB_72
          refine r_aload_n (pc := 75) dX11_take_75 rfl (by first | rfl | exact isRefV_rf _) ?_
          refine rj_iconst (pc := 76) dX11_take_76 ?_
          refine rj_iconst (pc := 77) dX11_take_77 ?_
          refine r_callV2 (pc := 78) dX11_take_78 qX11_isStepsRead kX11_92 vX11_isStepsRead (by exact isM.gx (by assumption)) rfl rfl (Nat.le_of_ble_eq_true rfl) (by have y := m_stepsW (G := G) (l := l) (w := 1) (it := false) (q := advF (nameF tape f6 (ps0 f11 f12))) (show isM h_72 x (mFs x f4 0 (advF (nameF tape f6 (ps0 f11 f12))).1 f6 (advF (nameF tape f6 (ps0 f11 f12))).2.1 (advF (nameF tape f6 (ps0 f11 f12))).2.2.1 (advF (nameF tape f6 (ps0 f11 f12))).2.2.2.1 (advF (nameF tape f6 (ps0 f11 f12))).2.2.2.2 f14 f16 f18 4) m kp was pool tape pln pap rwd rw from hB_72) hTx (adv_ok hqn (here_lt (sr := tape) (by omega))) (by decide) (by decide); rw [show bz false = 0 from rfl] at y; exact y.deeper (by omega)) (fun v_78 h_78 q_78 => ?_)
          obtain ⟨rfl, hB_78, S_78⟩ := q_78
          refine r_istore_n (pc := 81) dX11_take_81 (Nat.le_of_ble_eq_true rfl) ?_
          dsimp only [lsSt, List.set, mLs, mEnt]
          have zr : takeR tape f6 f11 f12 = stepsW tape f6 1 false (advF (nameF tape f6 (ps0 f11 f12))) := by unfold takeR; rw [if_pos ⟨c_53, c_62⟩]
          have y := L_takeT (G := G) (l := l) (len := f6.toNat) (E := takeE tape f6 f11 f12) (r := takeR tape f6 f11 f12) (a := a) (by rw [zr, ef]; exact hB_78) hok hT (by omega) (by rw [zr, ef]; exact (stepsW_p _ (adv_ok hqn (here_lt (sr := tape) (by omega)))).1) h8 (by omega) e2
          rw [ef, e1, zr] at y
          rw [zr]
          exact (y.deeper (by omega)).mono (fun v h' q => Or.inr ⟨c_15, q.1, q.2.1, ((((hS_28.trans S_38).trans S_42).trans hS_72).trans S_78).trans q.2.2⟩)
    · try simp only [b01_0, bz_0, Classical.not_not] at c_15
      refine rj_bipush (pc := 18) dX11_take_18 (by decide +kernel) ?_
      refine r_ireturn (pc := 20) .int dX11_take_20 rfl (by first | rfl | assumption) ?_
      exact Or.inl ⟨c_15, by rw [show openN m a = -3 from if_pos c_5], rfl⟩
  · try simp only [b01_0, bz_0, Classical.not_not] at c_5
    refine rj_iconst (pc := 8) dX11_take_8 ?_
    refine r_ireturn (pc := 9) .int dX11_take_9 rfl (by first | rfl | assumption) ?_
    exact Or.inl ⟨fun g => c_5 ⟨g.1, g.2.1⟩, by rw [show openN m a = -1 from if_neg c_5], rfl⟩
def newTaskM (m : Nat → Int) (a b : Int) (len : Nat) : Nat → Int :=
  updI (updI (updI (updI (updI (updI (updI (opensM (updI (zrF (updI m 3 (m 3 + 1)) (1608 + 72 * (m 3).toNat) 72) 8 (m 8 + (len : Nat) + 1)) (m 0).toNat a (m 3)) (1608 + 72 * (m 3).toNat) (m 0)) (1609 + 72 * (m 3).toNat) b) (1611 + 72 * (m 3).toNat) (m 8)) (1616 + 72 * (m 3).toNat) (m 8)) (1617 + 72 * (m 3).toNat) (m 8 + len)) (1619 + 72 * (m 3).toNat) 1) (1620 + 72 * (m 3).toNat) (m 0)
def taskR (tape : Nat → Int) (len f11 f12 : Int) : Bool × PS := wR len (stepsW tape len 0 true (ps0 f11 f12))
def taskF (m pool tape : Nat → Int) (a b : Int) (len : Nat) (f11 f12 : Int) : Int × (Nat → Int) × (Nat → Int) :=
  if (taskR tape len f11 f12).1 = true then (m 3, newTaskM m a b len, pooledP pool tape (m 8).toNat 0 len) else (-100 - (taskR tape len f11 f12).2.2.1, m, pool)
def taskN (m : Nat → Int) (a b : Int) : Int := if 0 ≤ a ∧ a ≤ m 0 - 1 then (if -99 ≤ b ∧ b ≤ 99 then (if openP m a then -4 else -3) else -2) else -1
abbrev taskDo (m : Nat → Int) (a b : Int) : Prop := (0 ≤ a ∧ a ≤ m 0 - 1) ∧ (-99 ≤ b ∧ b ≤ 99) ∧ openP m a ∧ ¬ m 3 = 10 ∧ ¬ m 0 = 60
set_option maxHeartbeats 4000000 in
set_option maxRecDepth 100000 in
theorem L_zero {G : mG} {l : Launch} {x s : Nat} {f4 f6 f8 f9 f10 f11 f12 f13 f14 f16 f18 : Int} {kp was pool tape pln pap rwd rw : Nat → Int} {T : Nat} (hT9 : T ≤ 9) {a b : Int} {mm : Nat → Int} {Q : Option Value → mH → Prop} {f6' : Int} {hz : mH} (K : ∀ h1, Same (mBlk x) hz h1 → isM h1 x (mFs x f4 f6 f8 f9 f10 f11 f12 f13 f14 f16 f18 s) (zrF mm (1608 + 72 * T) 72) kp was pool tape pln pap rwd rw → RUN G l 40 mX11_task 152 [some (.ref x), some (.int (J a)), some (.int (J b)), some (.int (J f6')), some (.int (J (T : Int))), some (.int (J (72 : Int)))] [] h1 Q) : ∀ (n k : Nat) (h : mH), k + n = 72 → Same (mBlk x) hz h → isM h x (mFs x f4 f6 f8 f9 f10 f11 f12 f13 f14 f16 f18 s) (zrF mm (1608 + 72 * T) k) kp was pool tape pln pap rwd rw → RUN G l 40 mX11_task 125 [some (.ref x), some (.int (J a)), some (.int (J b)), some (.int (J f6')), some (.int (J (T : Int))), some (.int (J (k : Int)))] [] h Q := by
  intro n
  induction n with
  | zero =>
    intro k h hk hS hB
    have hB0 := hB
    obtain rfl : k = 72 := by omega
    dsimp only [mFs] at hB
    refine r_iload (pc := 125) dX11_task_125 rfl ?_
    refine rj_bipush (pc := 127) dX11_task_127 (by decide +kernel) ?_
    refine rj_icmp_ge (pc := 129) (tgt := 152) dX11_task_129 (by decide) (by first | assumption | exact b01_r | exact bz_r | omega | (constructor <;> omega) | exact hM _ | exact hPo _ | exact hTa _ | exact hRo _) (by first | assumption | exact b01_r | exact bz_r | omega | (constructor <;> omega) | exact hM _ | exact hPo _ | exact hTa _ | exact hRo _) (fun c_129 => ?_) (fun c_129 => ?_)
    · exact K _ hS hB0
    · all_goals (first | exact absurd trivial ‹¬ True› | (exfalso; omega))
  | succ n ih =>
    intro k h hk hS hB
    have hB0 := hB
    dsimp only [mFs] at hB
    refine r_iload (pc := 125) dX11_task_125 rfl ?_
    refine rj_bipush (pc := 127) dX11_task_127 (by decide +kernel) ?_
    refine rj_icmp_ge (pc := 129) (tgt := 152) dX11_task_129 (by decide) (by first | assumption | exact b01_r | exact bz_r | omega | (constructor <;> omega) | exact hM _ | exact hPo _ | exact hTa _ | exact hRo _) (by first | assumption | exact b01_r | exact bz_r | omega | (constructor <;> omega) | exact hM _ | exact hPo _ | exact hTa _ | exact hRo _) (fun c_129 => ?_) (fun c_129 => ?_)
    · exfalso; omega
    · refine r_aload_n (pc := 132) dX11_task_132 rfl (by first | rfl | exact isRefV_rf _) ?_
      refine rm_getf (pc := 133) dX11_task_133 fX11_11 (by assumption) rfl ?_
      refine r_iload (pc := 136) dX11_task_136 rfl ?_
      refine r_iload (pc := 138) dX11_task_138 rfl ?_
      refine rj_iconst (pc := 140) dX11_task_140 ?_
      refine r_callS3 (pc := 141) dX11_task_141 qX11_ofTask kX11_58 sX11_ofTask (Nat.le_of_ble_eq_true rfl) (m_ofTask _) (fun v_141 h_141 q_141 => ?_)
      obtain ⟨rfl, rfl⟩ := q_141
      refine rj_iconst (pc := 144) dX11_task_144 ?_
      first | refine rm_iast0 (pc := 145) (j := 1608 + 72 * T + k) dX11_task_145 (by assumption) (by first | assumption | exact b01_r | exact bz_r | omega | (constructor <;> omega) | exact hM _ | exact hPo _ | exact hTa _ | exact hRo _) (by first | assumption | exact b01_r | exact bz_r | omega | (constructor <;> omega) | exact hM _ | exact hPo _ | exact hTa _ | exact hRo _) (by first | assumption | exact b01_r | exact bz_r | omega | (constructor <;> omega) | exact hM _ | exact hPo _ | exact hTa _ | exact hRo _) (by omega) (fun h_145 hB_145 hS_145 => ?_)
      rw [zrF_s] at hB_145
      refine rj_iinc (pc := 146) dX11_task_146 (Nat.le_of_ble_eq_true rfl) rfl ?_
      dsimp only [lsSt, List.set, mLs, mEnt]
      refine r_goto (pc := 149) (tgt := 125) dX11_task_149 (by decide) ?_
      have y := ih (k + 1) _ (by omega) (hS.trans hS_145) hB_145
      rw [show ((k + 1 : Nat) : Int) = (k : Int) + 1 by omega] at y
      exact y
set_option maxHeartbeats 4000000 in
set_option maxRecDepth 100000 in
theorem L_taskT {G : mG} {l : Launch} {x s : Nat} {f4 f6 f8 f9 f10 f11 f12 f13 f14 f16 f18 : Int} {m kp was pool tape pln pap rwd rw : Nat → Int} {h : mH} {len : Nat} (hB : isM h x (mFs x f4 f6 f8 f9 f10 f11 f12 f13 f14 f16 f18 s) (zrF (updI m 3 (m 3 + 1)) (1608 + 72 * (m 3).toNat) 72) kp was pool tape pln pap rwd rw) (hTa : ∀ q, InR (tape q)) (hl : len ≤ 120) (h8 : 0 ≤ m 8 ∧ m 8 + 130 ≤ 12342) (h0 : 0 ≤ m 0 ∧ m 0 ≤ 59) (h3 : 0 ≤ m 3 ∧ m 3 ≤ 9) {a b : Int} {Q : Option Value → mH → Prop} (K : ∀ h1, isM h1 x (mFs x f4 f6 f8 f9 f10 f11 f12 f13 f14 f16 f18 s) (newTaskM m a b len) kp was (pooledP pool tape (m 8).toNat 0 len) tape pln pap rwd rw → Same (mBlk x) h h1 → Q (some (.int (J (m 3)))) h1) : RUN G l 40 mX11_task 152 [some (.ref x), some (.int (J a)), some (.int (J b)), some (.int (J (len : Int))), some (.int (J (m 3))), some (.int (J 72))] [] h Q := by
  have hB0 := hB
  have zz8 : (zrF (updI m 3 (m 3 + 1)) (1608 + 72 * (m 3).toNat) 72) 8 = m 8 := by unfold zrF; rw [if_neg (by omega), updI_n (by decide)]
  have zz0 : (updI (zrF (updI m 3 (m 3 + 1)) (1608 + 72 * (m 3).toNat) 72) 8 (m 8 + (len : Nat) + 1)) 0 = m 0 := by rw [updI_n (by decide)]; unfold zrF; rw [if_neg (by omega), updI_n (by decide)]
  have zo : (updI (updI (updI (updI (updI (updI (opensM (updI (zrF (updI m 3 (m 3 + 1)) (1608 + 72 * (m 3).toNat) 72) 8 (m 8 + (len : Nat) + 1)) (m 0).toNat a (m 3)) (1608 + 72 * (m 3).toNat) (m 0)) (1609 + 72 * (m 3).toNat) b) (1611 + 72 * (m 3).toNat) (m 8)) (1616 + 72 * (m 3).toNat) (m 8)) (1617 + 72 * (m 3).toNat) (m 8 + len)) (1619 + 72 * (m 3).toNat) 1) (1608 + 72 * (m 3).toNat) = m 0 := by rw [updI_n (by omega), updI_n (by omega), updI_n (by omega), updI_n (by omega), updI_n (by omega), updI_s]
  dsimp only [mFs] at hB
  refine r_aload_n (pc := 152) dX11_task_152 rfl (by first | rfl | exact isRefV_rf _) ?_
  refine rj_iconst (pc := 153) dX11_task_153 ?_
  refine r_iload_n (pc := 154) dX11_task_154 rfl ?_
  refine r_callV2 (pc := 155) dX11_task_155 qX11_pooled kX11_220 vX11_pooled (by exact isM.gx (by assumption)) rfl rfl (Nat.le_of_ble_eq_true rfl) (by have y := m_pooled (G := G) (l := l) 0 hB0 (a := 0) (b := len) (p := (m 8).toNat) hTa (by omega) (by omega) (by omega) (by rw [zz8]; omega); exact y.deeper (by omega)) (fun v_155 h_155 q_155 => ?_)
  obtain ⟨rfl, hB_155, S_155⟩ := q_155
  have hC_155 : isM h_155 x (mFs x f4 f6 f8 f9 f10 f11 f12 f13 f14 f16 f18 s) (updI (zrF (updI m 3 (m 3 + 1)) (1608 + 72 * (m 3).toNat) 72) 8 (m 8 + (len : Nat) + 1)) kp was (pooledP pool tape (m 8).toNat 0 len) tape pln pap rwd rw := by rw [show m 8 + (len : Int) + 1 = ((m 8).toNat : Int) + ((len - 0 : Nat) : Int) + 1 by omega]; exact hB_155
  refine r_istore (pc := 158) dX11_task_158 (Nat.le_of_ble_eq_true rfl) ?_
  dsimp only [lsSt, List.set, mLs, mEnt]
  rw [show (((m 8).toNat : Nat) : Int) = m 8 by omega]
  refine r_aload_n (pc := 160) dX11_task_160 rfl (by first | rfl | exact isRefV_rf _) ?_
  refine rm_getf (pc := 161) dX11_task_161 fX11_11 (by assumption) rfl ?_
  refine r_iload (pc := 164) dX11_task_164 rfl ?_
  refine rj_iconst (pc := 166) dX11_task_166 ?_
  refine rj_iconst (pc := 167) dX11_task_167 ?_
  refine r_callS3 (pc := 168) dX11_task_168 qX11_ofTask kX11_58 sX11_ofTask (Nat.le_of_ble_eq_true rfl) (m_ofTask _) (fun v_168 h_168 q_168 => ?_)
  obtain ⟨rfl, rfl⟩ := q_168
  refine r_aload_n (pc := 171) dX11_task_171 rfl (by first | rfl | exact isRefV_rf _) ?_
  refine r_iload_n (pc := 172) dX11_task_172 rfl ?_
  refine r_iload (pc := 173) dX11_task_173 rfl ?_
  refine r_callV2 (pc := 175) dX11_task_175 qX11_opens kX11_186 vX11_opens (by exact isM.gx (by assumption)) rfl rfl (Nat.le_of_ble_eq_true rfl) (by have y := m_opens (G := G) (l := l) 0 hC_155 (C := (m 0).toNat) (by rw [zz0]; omega) (by omega) (p := a) (t := m 3); exact y.deeper (by omega)) (fun v_175 h_175 q_175 => ?_)
  obtain ⟨rfl, hB_175, S_175⟩ := q_175
  rw [show (((m 0).toNat : Nat) : Int) = m 0 by omega]
  first | refine rm_iast0 (pc := 178) (j := 1608 + 72 * (m 3).toNat) dX11_task_178 (by assumption) (by first | assumption | exact b01_r | exact bz_r | omega | (constructor <;> omega) | exact hM _ | exact hPo _ | exact hTa _ | exact hRo _) (by first | assumption | exact b01_r | exact bz_r | omega | (constructor <;> omega) | exact hM _ | exact hPo _ | exact hTa _ | exact hRo _) (by first | assumption | exact b01_r | exact bz_r | omega | (constructor <;> omega) | exact hM _ | exact hPo _ | exact hTa _ | exact hRo _) (by omega) (fun h_178 hB_178 hS_178 => ?_)
  refine r_aload_n (pc := 179) dX11_task_179 rfl (by first | rfl | exact isRefV_rf _) ?_
  refine rm_getf (pc := 180) dX11_task_180 fX11_11 (by assumption) rfl ?_
  refine r_iload (pc := 183) dX11_task_183 rfl ?_
  refine rj_iconst (pc := 185) dX11_task_185 ?_
  refine rj_iconst (pc := 186) dX11_task_186 ?_
  refine r_callS3 (pc := 187) dX11_task_187 qX11_ofTask kX11_58 sX11_ofTask (Nat.le_of_ble_eq_true rfl) (m_ofTask _) (fun v_187 h_187 q_187 => ?_)
  obtain ⟨rfl, rfl⟩ := q_187
  refine r_iload_n (pc := 190) dX11_task_190 rfl ?_
  first | refine rm_iast0 (pc := 191) (j := 1609 + 72 * (m 3).toNat) dX11_task_191 (by assumption) (by first | assumption | exact b01_r | exact bz_r | omega | (constructor <;> omega) | exact hM _ | exact hPo _ | exact hTa _ | exact hRo _) (by first | assumption | exact b01_r | exact bz_r | omega | (constructor <;> omega) | exact hM _ | exact hPo _ | exact hTa _ | exact hRo _) (by first | assumption | exact b01_r | exact bz_r | omega | (constructor <;> omega) | exact hM _ | exact hPo _ | exact hTa _ | exact hRo _) (by omega) (fun h_191 hB_191 hS_191 => ?_)
  refine r_aload_n (pc := 192) dX11_task_192 rfl (by first | rfl | exact isRefV_rf _) ?_
  refine rm_getf (pc := 193) dX11_task_193 fX11_11 (by assumption) rfl ?_
  refine r_iload (pc := 196) dX11_task_196 rfl ?_
  refine rj_iconst (pc := 198) dX11_task_198 ?_
  refine rj_iconst (pc := 199) dX11_task_199 ?_
  refine r_callS3 (pc := 200) dX11_task_200 qX11_ofTask kX11_58 sX11_ofTask (Nat.le_of_ble_eq_true rfl) (m_ofTask _) (fun v_200 h_200 q_200 => ?_)
  obtain ⟨rfl, rfl⟩ := q_200
  refine r_iload (pc := 203) dX11_task_203 rfl ?_
  first | refine rm_iast0 (pc := 205) (j := 1611 + 72 * (m 3).toNat) dX11_task_205 (by assumption) (by first | assumption | exact b01_r | exact bz_r | omega | (constructor <;> omega) | exact hM _ | exact hPo _ | exact hTa _ | exact hRo _) (by first | assumption | exact b01_r | exact bz_r | omega | (constructor <;> omega) | exact hM _ | exact hPo _ | exact hTa _ | exact hRo _) (by first | assumption | exact b01_r | exact bz_r | omega | (constructor <;> omega) | exact hM _ | exact hPo _ | exact hTa _ | exact hRo _) (by omega) (fun h_205 hB_205 hS_205 => ?_)
  refine r_aload_n (pc := 206) dX11_task_206 rfl (by first | rfl | exact isRefV_rf _) ?_
  refine rm_getf (pc := 207) dX11_task_207 fX11_11 (by assumption) rfl ?_
  refine r_iload (pc := 210) dX11_task_210 rfl ?_
  refine rj_bipush (pc := 212) dX11_task_212 (by decide +kernel) ?_
  refine rj_iconst (pc := 214) dX11_task_214 ?_
  refine r_callS3 (pc := 215) dX11_task_215 qX11_ofTask kX11_58 sX11_ofTask (Nat.le_of_ble_eq_true rfl) (m_ofTask _) (fun v_215 h_215 q_215 => ?_)
  obtain ⟨rfl, rfl⟩ := q_215
  refine r_iload (pc := 218) dX11_task_218 rfl ?_
  first | refine rm_iast0 (pc := 220) (j := 1616 + 72 * (m 3).toNat) dX11_task_220 (by assumption) (by first | assumption | exact b01_r | exact bz_r | omega | (constructor <;> omega) | exact hM _ | exact hPo _ | exact hTa _ | exact hRo _) (by first | assumption | exact b01_r | exact bz_r | omega | (constructor <;> omega) | exact hM _ | exact hPo _ | exact hTa _ | exact hRo _) (by first | assumption | exact b01_r | exact bz_r | omega | (constructor <;> omega) | exact hM _ | exact hPo _ | exact hTa _ | exact hRo _) (by omega) (fun h_220 hB_220 hS_220 => ?_)
  refine r_aload_n (pc := 221) dX11_task_221 rfl (by first | rfl | exact isRefV_rf _) ?_
  refine rm_getf (pc := 222) dX11_task_222 fX11_11 (by assumption) rfl ?_
  refine r_iload (pc := 225) dX11_task_225 rfl ?_
  refine rj_bipush (pc := 227) dX11_task_227 (by decide +kernel) ?_
  refine rj_iconst (pc := 229) dX11_task_229 ?_
  refine r_callS3 (pc := 230) dX11_task_230 qX11_ofTask kX11_58 sX11_ofTask (Nat.le_of_ble_eq_true rfl) (m_ofTask _) (fun v_230 h_230 q_230 => ?_)
  obtain ⟨rfl, rfl⟩ := q_230
  refine r_iload (pc := 233) dX11_task_233 rfl ?_
  refine r_iload_n (pc := 235) dX11_task_235 rfl ?_
  refine rj_iadd (pc := 236) dX11_task_236 ?_
  first | refine rm_iast0 (pc := 237) (j := 1617 + 72 * (m 3).toNat) dX11_task_237 (by assumption) (by first | assumption | exact b01_r | exact bz_r | omega | (constructor <;> omega) | exact hM _ | exact hPo _ | exact hTa _ | exact hRo _) (by first | assumption | exact b01_r | exact bz_r | omega | (constructor <;> omega) | exact hM _ | exact hPo _ | exact hTa _ | exact hRo _) (by first | assumption | exact b01_r | exact bz_r | omega | (constructor <;> omega) | exact hM _ | exact hPo _ | exact hTa _ | exact hRo _) (by omega) (fun h_237 hB_237 hS_237 => ?_)
  refine r_aload_n (pc := 238) dX11_task_238 rfl (by first | rfl | exact isRefV_rf _) ?_
  refine rm_getf (pc := 239) dX11_task_239 fX11_11 (by assumption) rfl ?_
  refine r_iload (pc := 242) dX11_task_242 rfl ?_
  refine rj_bipush (pc := 244) dX11_task_244 (by decide +kernel) ?_
  refine rj_iconst (pc := 246) dX11_task_246 ?_
  refine r_callS3 (pc := 247) dX11_task_247 qX11_ofTask kX11_58 sX11_ofTask (Nat.le_of_ble_eq_true rfl) (m_ofTask _) (fun v_247 h_247 q_247 => ?_)
  obtain ⟨rfl, rfl⟩ := q_247
  refine rj_iconst (pc := 250) dX11_task_250 ?_
  first | refine rm_iast0 (pc := 251) (j := 1619 + 72 * (m 3).toNat) dX11_task_251 (by assumption) (by first | assumption | exact b01_r | exact bz_r | omega | (constructor <;> omega) | exact hM _ | exact hPo _ | exact hTa _ | exact hRo _) (by first | assumption | exact b01_r | exact bz_r | omega | (constructor <;> omega) | exact hM _ | exact hPo _ | exact hTa _ | exact hRo _) (by first | assumption | exact b01_r | exact bz_r | omega | (constructor <;> omega) | exact hM _ | exact hPo _ | exact hTa _ | exact hRo _) (by omega) (fun h_251 hB_251 hS_251 => ?_)
  refine r_aload_n (pc := 252) dX11_task_252 rfl (by first | rfl | exact isRefV_rf _) ?_
  refine rm_getf (pc := 253) dX11_task_253 fX11_11 (by assumption) rfl ?_
  refine r_iload (pc := 256) dX11_task_256 rfl ?_
  refine rj_bipush (pc := 258) dX11_task_258 (by decide +kernel) ?_
  refine rj_iconst (pc := 260) dX11_task_260 ?_
  refine r_callS3 (pc := 261) dX11_task_261 qX11_ofTask kX11_58 sX11_ofTask (Nat.le_of_ble_eq_true rfl) (m_ofTask _) (fun v_261 h_261 q_261 => ?_)
  obtain ⟨rfl, rfl⟩ := q_261
  refine r_aload_n (pc := 264) dX11_task_264 rfl (by first | rfl | exact isRefV_rf _) ?_
  refine rm_getf (pc := 265) dX11_task_265 fX11_11 (by assumption) rfl ?_
  refine r_iload (pc := 268) dX11_task_268 rfl ?_
  refine rj_iconst (pc := 270) dX11_task_270 ?_
  refine rj_iconst (pc := 271) dX11_task_271 ?_
  refine r_callS3 (pc := 272) dX11_task_272 qX11_ofTask kX11_58 sX11_ofTask (Nat.le_of_ble_eq_true rfl) (m_ofTask _) (fun v_272 h_272 q_272 => ?_)
  obtain ⟨rfl, rfl⟩ := q_272
  refine rj_iald (pc := 275) (j := 1608 + 72 * (m 3).toNat) dX11_task_275 (by first | exact isM.g0 (by assumption) | exact isM.g3 (by assumption) | exact isM.g4 (by assumption) | exact isM.g8 (by assumption) | exact isM.g7 (by assumption) | exact isM.g6 (by assumption) | exact isM.g5 (by assumption) | exact isM.g1 (by assumption) | exact isM.g2 (by assumption)) (by first | assumption | exact b01_r | exact bz_r | omega | (constructor <;> omega) | exact hM _ | exact hPo _ | exact hTa _ | exact hRo _) (by first | assumption | exact b01_r | exact bz_r | omega | (constructor <;> omega) | exact hM _ | exact hPo _ | exact hTa _ | exact hRo _) (by first | assumption | exact b01_r | exact bz_r | omega | (constructor <;> omega) | exact hM _ | exact hPo _ | exact hTa _ | exact hRo _) (by omega) ?_
  rw [zo]
  first | refine rm_iast0 (pc := 276) (j := 1620 + 72 * (m 3).toNat) dX11_task_276 (by assumption) (by first | assumption | exact b01_r | exact bz_r | omega | (constructor <;> omega) | exact hM _ | exact hPo _ | exact hTa _ | exact hRo _) (by first | assumption | exact b01_r | exact bz_r | omega | (constructor <;> omega) | exact hM _ | exact hPo _ | exact hTa _ | exact hRo _) (by first | assumption | exact b01_r | exact bz_r | omega | (constructor <;> omega) | exact hM _ | exact hPo _ | exact hTa _ | exact hRo _) (by omega) (fun h_276 hB_276 hS_276 => ?_)
  refine r_iload (pc := 277) dX11_task_277 rfl ?_
  refine r_ireturn (pc := 279) .int dX11_task_279 rfl (by first | rfl | assumption) ?_
  exact K _ hB_276 ((((((((S_155.trans S_175).trans hS_178).trans hS_191).trans hS_205).trans hS_220).trans hS_237).trans hS_251).trans hS_276)
set_option maxHeartbeats 4000000 in
set_option maxRecDepth 100000 in
theorem m_task {G : mG} {l : Launch} {h : mH} {x s : Nat} {f4 f6 f8 f9 f10 f11 f12 f13 f14 f16 f18 : Int} {m kp was pool tape pln pap rwd rw : Nat → Int}(hB : isM h x (mFs x f4 f6 f8 f9 f10 f11 f12 f13 f14 f16 f18 s) m kp was pool tape pln pap rwd rw) (hok : mOk m) (hT : bytesOk tape) (h6 : 0 ≤ f6 ∧ f6 ≤ 120) (h11 : 0 ≤ f11 ∧ f11 ≤ 99999) (h8 : 0 ≤ m 8 ∧ m 8 + 130 ≤ 12342) {a b : Int} (ha : InR a) (hb : InR b) : RUNM G l 41 mX11_task [.ref x, .int (J a), .int (J b)] h (fun v h' => (¬ taskDo m a b ∧ v = some (.int (J (taskN m a b))) ∧ h' = h) ∨ (taskDo m a b ∧ v = some (.int (J (taskF m pool tape a b f6.toNat f11 f12).1)) ∧ isMs h' x f4 0 f14 f16 f18 (taskF m pool tape a b f6.toNat f11 f12).2.1 kp was (taskF m pool tape a b f6.toNat f11 f12).2.2 tape pln pap rwd rw ∧ Same (mBlk x) h h')) := by
  obtain ⟨hM, k0, k1, k2, k3, k4, k5, k7⟩ := id hok
  have hB0 := hB
  have hTx : txOk 4 tape pool tape f6 := ⟨Or.inl ⟨rfl, rfl, h6.2⟩, h6.1, hT⟩
  have hq0 : psOk f6 (ps0 f11 f12) := ps0_ok h6.1 h11
  have hTa : ∀ q, InR (tape q) := fun q => by have := hT q; exact ⟨by omega, by omega⟩
  have ef : ((f6.toNat : Nat) : Int) = f6 := by omega
  have r0 := hM 0
  have r3 := hM 3
  have hqs := (stepsW_p (sr := tape) (w := 0) (it := true) _ hq0).1
  have hwo := wholeR_ok hqs
  have hw : taskR tape f6 f11 f12 = wR f6 (stepsW tape f6 0 true (ps0 f11 f12)) := rfl
  dsimp only [mFs] at hB
  refine RUNM.of (by decide +kernel) (Nat.le_of_ble_eq_true rfl) ?_
  refine r_aload_n (pc := 0) dX11_task_0 rfl (by first | rfl | exact isRefV_rf _) ?_
  refine r_iload_n (pc := 1) dX11_task_1 rfl ?_
  refine r_callV1 (pc := 2) dX11_task_2 qX11_isScope kX11_50 vX11_isScope (by exact isM.gx (by assumption)) rfl rfl (Nat.le_of_ble_eq_true rfl) ((m_isScope 0 hB0 ha ⟨by omega, by omega⟩).deeper (by omega)) (fun v_2 h_2 q_2 => ?_)
  obtain ⟨rfl, rfl⟩ := q_2
  refine rj_if_ne (pc := 5) (tgt := 10) dX11_task_5 (by decide) (by first | assumption | exact b01_r | exact bz_r | omega | (constructor <;> omega) | exact hM _ | exact hPo _ | exact hTa _ | exact hRo _) (fun c_5 => ?_) (fun c_5 => ?_)
  · try simp only [b01_0, bz_0, Classical.not_not] at c_5
    refine r_iload_n (pc := 10) dX11_task_10 rfl ?_
    refine rj_bipush (pc := 11) dX11_task_11 (by decide +kernel) ?_
    refine rj_bipush (pc := 13) dX11_task_13 (by decide +kernel) ?_
    refine r_callS3 (pc := 15) dX11_task_15 qX11_isIn kX11_46 sX11_isIn (Nat.le_of_ble_eq_true rfl) ((m_isIn 0 hb (by decide) (by decide)).deeper (by omega)) (fun v_15 h_15 q_15 => ?_)
    obtain ⟨rfl, rfl⟩ := q_15
    refine rj_if_ne (pc := 18) (tgt := 24) dX11_task_18 (by decide) (by first | assumption | exact b01_r | exact bz_r | omega | (constructor <;> omega) | exact hM _ | exact hPo _ | exact hTa _ | exact hRo _) (fun c_18 => ?_) (fun c_18 => ?_)
    · try simp only [b01_0, bz_0, Classical.not_not] at c_18
      refine r_aload_n (pc := 24) dX11_task_24 rfl (by first | rfl | exact isRefV_rf _) ?_
      refine r_iload_n (pc := 25) dX11_task_25 rfl ?_
      refine r_callV1 (pc := 26) dX11_task_26 qX11_isOpen kX11_146 vX11_isOpen (by exact isM.gx (by assumption)) rfl rfl (Nat.le_of_ble_eq_true rfl) ((m_isOpen 0 hB0 hM k0 ha).deeper (by omega)) (fun v_26 h_26 q_26 => ?_)
      obtain ⟨rfl, rfl⟩ := q_26
      refine rj_if_ne (pc := 29) (tgt := 35) dX11_task_29 (by decide) (by first | assumption | exact b01_r | exact bz_r | omega | (constructor <;> omega) | exact hM _ | exact hPo _ | exact hTa _ | exact hRo _) (fun c_29 => ?_) (fun c_29 => ?_)
      · try simp only [b01_0, bz_0, Classical.not_not] at c_29
        refine r_aload_n (pc := 35) dX11_task_35 rfl (by first | rfl | exact isRefV_rf _) ?_
        refine rm_getf (pc := 36) dX11_task_36 fX11_11 (by assumption) rfl ?_
        refine rj_iconst (pc := 39) dX11_task_39 ?_
        refine rj_iald (pc := 40) (j := 3) dX11_task_40 (by first | exact isM.g0 (by assumption) | exact isM.g3 (by assumption) | exact isM.g4 (by assumption) | exact isM.g8 (by assumption) | exact isM.g7 (by assumption) | exact isM.g6 (by assumption) | exact isM.g5 (by assumption) | exact isM.g1 (by assumption) | exact isM.g2 (by assumption)) (by first | assumption | exact b01_r | exact bz_r | omega | (constructor <;> omega) | exact hM _ | exact hPo _ | exact hTa _ | exact hRo _) (by first | assumption | exact b01_r | exact bz_r | omega | (constructor <;> omega) | exact hM _ | exact hPo _ | exact hTa _ | exact hRo _) (by first | assumption | exact b01_r | exact bz_r | omega | (constructor <;> omega) | exact hM _ | exact hPo _ | exact hTa _ | exact hRo _) (by omega) ?_
        refine rj_bipush (pc := 41) dX11_task_41 (by decide +kernel) ?_
        refine rj_icmp_eq (pc := 43) (tgt := 57) dX11_task_43 (by decide) (by first | assumption | exact b01_r | exact bz_r | omega | (constructor <;> omega) | exact hM _ | exact hPo _ | exact hTa _ | exact hRo _) (by first | assumption | exact b01_r | exact bz_r | omega | (constructor <;> omega) | exact hM _ | exact hPo _ | exact hTa _ | exact hRo _) (fun c_43 => ?_) (fun c_43 => ?_)
        · refine rj_bipush (pc := 57) dX11_task_57 (by decide +kernel) ?_
          refine r_ireturn (pc := 59) .int dX11_task_59 rfl (by first | rfl | assumption) ?_
          exact Or.inl ⟨fun g => by first | exact g.2.2.2.1 c_43 | exact g.2.2.2.2 c_54, by rw [show taskN m a b = -4 by unfold taskN; rw [if_pos c_5, if_pos c_18, if_pos c_29]], rfl⟩
        · refine r_aload_n (pc := 46) dX11_task_46 rfl (by first | rfl | exact isRefV_rf _) ?_
          refine rm_getf (pc := 47) dX11_task_47 fX11_11 (by assumption) rfl ?_
          refine rj_iconst (pc := 50) dX11_task_50 ?_
          refine rj_iald (pc := 51) (j := 0) dX11_task_51 (by first | exact isM.g0 (by assumption) | exact isM.g3 (by assumption) | exact isM.g4 (by assumption) | exact isM.g8 (by assumption) | exact isM.g7 (by assumption) | exact isM.g6 (by assumption) | exact isM.g5 (by assumption) | exact isM.g1 (by assumption) | exact isM.g2 (by assumption)) (by first | assumption | exact b01_r | exact bz_r | omega | (constructor <;> omega) | exact hM _ | exact hPo _ | exact hTa _ | exact hRo _) (by first | assumption | exact b01_r | exact bz_r | omega | (constructor <;> omega) | exact hM _ | exact hPo _ | exact hTa _ | exact hRo _) (by first | assumption | exact b01_r | exact bz_r | omega | (constructor <;> omega) | exact hM _ | exact hPo _ | exact hTa _ | exact hRo _) (by omega) ?_
          refine rj_bipush (pc := 52) dX11_task_52 (by decide +kernel) ?_
          refine rj_icmp_ne (pc := 54) (tgt := 60) dX11_task_54 (by decide) (by first | assumption | exact b01_r | exact bz_r | omega | (constructor <;> omega) | exact hM _ | exact hPo _ | exact hTa _ | exact hRo _) (by first | assumption | exact b01_r | exact bz_r | omega | (constructor <;> omega) | exact hM _ | exact hPo _ | exact hTa _ | exact hRo _) (fun c_54 => ?_) (fun c_54 => ?_)
          · refine r_aload_n (pc := 60) dX11_task_60 rfl (by first | rfl | exact isRefV_rf _) ?_
            refine rm_getf (pc := 61) dX11_task_61 fX11_61 (by assumption) rfl ?_
            refine r_istore_n (pc := 64) dX11_task_64 (Nat.le_of_ble_eq_true rfl) ?_
            dsimp only [lsSt, List.set, mLs, mEnt]
            refine r_aload_n (pc := 65) dX11_task_65 rfl (by first | rfl | exact isRefV_rf _) ?_
            refine rj_iconst (pc := 66) dX11_task_66 ?_
            refine rm_putf (pc := 67) dX11_task_67 fX11_61 (by assumption) rfl rfl (Nat.le_of_ble_eq_true rfl) (fun h_67 hB_67 hS_67 => ?_)
            dsimp only [List.set, mFs] at hB_67
            refine r_aload_n (pc := 70) dX11_task_70 rfl (by first | rfl | exact isRefV_rf _) ?_
            refine r_aload_n (pc := 71) dX11_task_71 rfl (by first | rfl | exact isRefV_rf _) ?_
            refine rm_getf (pc := 72) dX11_task_72 fX11_24 (by assumption) rfl ?_
            refine rj_iconst (pc := 75) dX11_task_75 ?_
            refine r_iload_n (pc := 76) dX11_task_76 rfl ?_
            refine r_callV3 (pc := 77) dX11_task_77 qX11_begins kX11_115 vX11_begins (by exact isM.gx (by assumption)) rfl rfl (Nat.le_of_ble_eq_true rfl) ((m_begins 0 (show isM h_67 x (mFs x f4 0 f8 f9 f10 f11 f12 f13 f14 f16 f18 s) m kp was pool tape pln pap rwd rw from hB_67)).deeper (by omega)) (fun v_77 h_77 q_77 => ?_)
            obtain ⟨rfl, hB_77, S_77⟩ := q_77
            have hQ_77 : isM h_77 x (mFs x f4 0 (ps0 f11 f12).1 f6 (ps0 f11 f12).2.1 (ps0 f11 f12).2.2.1 (ps0 f11 f12).2.2.2.1 (ps0 f11 f12).2.2.2.2 f14 f16 f18 4) m kp was pool tape pln pap rwd rw := hB_77
            refine r_aload_n (pc := 80) dX11_task_80 rfl (by first | rfl | exact isRefV_rf _) ?_
            refine rj_iconst (pc := 81) dX11_task_81 ?_
            refine rj_iconst (pc := 82) dX11_task_82 ?_
            refine r_callV2 (pc := 83) dX11_task_83 qX11_isStepsRead kX11_92 vX11_isStepsRead (by exact isM.gx (by assumption)) rfl rfl (Nat.le_of_ble_eq_true rfl) (by have y := m_stepsW (G := G) (l := l) (w := 0) (it := true) (q := ps0 f11 f12) hQ_77 hTx hq0 (by decide) (by decide); rw [show bz true = 1 from rfl] at y; exact y.deeper (by omega)) (fun v_83 h_83 q_83 => ?_)
            obtain ⟨rfl, hB_83, S_83⟩ := q_83
            refine rj_if_eq (pc := 86) (tgt := 96) dX11_task_86 (by decide) (by first | assumption | exact b01_r | exact bz_r | omega | (constructor <;> omega) | exact hM _ | exact hPo _ | exact hTa _ | exact hRo _) (fun c_86 => ?_) (fun c_86 => ?_)
            · try simp only [b01_0, bz_0, Classical.not_not] at c_86
              refine rj_bipush (pc := 96) dX11_task_96 (by decide +kernel) ?_
              refine r_aload_n (pc := 98) dX11_task_98 rfl (by first | rfl | exact isRefV_rf _) ?_
              refine rm_getf (pc := 99) dX11_task_99 fX11_71 (by assumption) rfl ?_
              refine rj_isub (pc := 102) dX11_task_102 ?_
              refine r_ireturn (pc := 103) .int dX11_task_103 rfl (by first | rfl | assumption) ?_
              first
              | (have z0 : (stepsW tape f6 0 true (ps0 f11 f12)).1 = false := by simpa using c_86
                 have z1 : taskR tape (f6.toNat : Int) f11 f12 = (stepsW tape f6 0 true (ps0 f11 f12)) := by rw [ef, hw]; unfold wR; rw [if_neg (by rw [z0]; decide)]
                 have z3 : (taskF m pool tape a b f6.toNat f11 f12) = (-100 - (stepsW tape f6 0 true (ps0 f11 f12)).2.2.1, m, pool) := by unfold taskF; rw [z1, if_neg (by rw [z0]; decide)]
                 rw [z3]
                 exact Or.inr ⟨⟨c_5, c_18, c_29, c_43, c_54⟩, rfl, hB_83.isMs ⟨hqs.2.2.2.2.1, hqs.2.2.2.2.2.1⟩, (hS_67.trans S_77).trans S_83⟩)
              | (have z0 : (stepsW tape f6 0 true (ps0 f11 f12)).1 = true := by simpa using c_86
                 have z1 : taskR tape (f6.toNat : Int) f11 f12 = wholeR f6 (stepsW tape f6 0 true (ps0 f11 f12)).2 := by rw [ef, hw]; unfold wR; rw [if_pos z0]
                 have z2 : (wholeR f6 (stepsW tape f6 0 true (ps0 f11 f12)).2).1 = false := by simpa using c_93
                 have z3 : (taskF m pool tape a b f6.toNat f11 f12) = (-100 - (wholeR f6 (stepsW tape f6 0 true (ps0 f11 f12)).2).2.2.1, m, pool) := by unfold taskF; rw [z1, if_neg (by rw [z2]; decide)]
                 rw [z3]
                 exact Or.inr ⟨⟨c_5, c_18, c_29, c_43, c_54⟩, rfl, hB_90.isMs ⟨hwo.2.2.2.2.1, hwo.2.2.2.2.2.1⟩, ((hS_67.trans S_77).trans S_83).trans S_90⟩)
            · try simp only [b01_0, bz_0, Classical.not_not] at c_86
              refine r_aload_n (pc := 89) dX11_task_89 rfl (by first | rfl | exact isRefV_rf _) ?_
              refine r_callV0 (pc := 90) dX11_task_90 qX11_isWhole kX11_217 vX11_isWhole (by exact isM.gx (by assumption)) rfl rfl (Nat.le_of_ble_eq_true rfl) ((m_isWhole 0 hB_83 hTx hqs).deeper (by omega)) (fun v_90 h_90 q_90 => ?_)
              obtain ⟨rfl, hB_90, S_90⟩ := q_90
              refine rj_if_ne (pc := 93) (tgt := 104) dX11_task_93 (by decide) (by first | assumption | exact b01_r | exact bz_r | omega | (constructor <;> omega) | exact hM _ | exact hPo _ | exact hTa _ | exact hRo _) (fun c_93 => ?_) (fun c_93 => ?_)
              · try simp only [b01_0, bz_0, Classical.not_not] at c_93
                refine r_aload_n (pc := 104) dX11_task_104 rfl (by first | rfl | exact isRefV_rf _) ?_
                refine rm_getf (pc := 105) dX11_task_105 fX11_11 (by assumption) rfl ?_
                refine rj_iconst (pc := 108) dX11_task_108 ?_
                refine rj_iald (pc := 109) (j := 3) dX11_task_109 (by first | exact isM.g0 (by assumption) | exact isM.g3 (by assumption) | exact isM.g4 (by assumption) | exact isM.g8 (by assumption) | exact isM.g7 (by assumption) | exact isM.g6 (by assumption) | exact isM.g5 (by assumption) | exact isM.g1 (by assumption) | exact isM.g2 (by assumption)) (by first | assumption | exact b01_r | exact bz_r | omega | (constructor <;> omega) | exact hM _ | exact hPo _ | exact hTa _ | exact hRo _) (by first | assumption | exact b01_r | exact bz_r | omega | (constructor <;> omega) | exact hM _ | exact hPo _ | exact hTa _ | exact hRo _) (by first | assumption | exact b01_r | exact bz_r | omega | (constructor <;> omega) | exact hM _ | exact hPo _ | exact hTa _ | exact hRo _) (by omega) ?_
                refine r_istore (pc := 110) dX11_task_110 (Nat.le_of_ble_eq_true rfl) ?_
                dsimp only [lsSt, List.set, mLs, mEnt]
                refine r_aload_n (pc := 112) dX11_task_112 rfl (by first | rfl | exact isRefV_rf _) ?_
                refine rm_getf (pc := 113) dX11_task_113 fX11_11 (by assumption) rfl ?_
                refine rj_iconst (pc := 116) dX11_task_116 ?_
                refine r_dup2 (pc := 117) dX11_task_117 rfl rfl ?_
                refine rj_iald (pc := 118) (j := 3) dX11_task_118 (by first | exact isM.g0 (by assumption) | exact isM.g3 (by assumption) | exact isM.g4 (by assumption) | exact isM.g8 (by assumption) | exact isM.g7 (by assumption) | exact isM.g6 (by assumption) | exact isM.g5 (by assumption) | exact isM.g1 (by assumption) | exact isM.g2 (by assumption)) (by first | assumption | exact b01_r | exact bz_r | omega | (constructor <;> omega) | exact hM _ | exact hPo _ | exact hTa _ | exact hRo _) (by first | assumption | exact b01_r | exact bz_r | omega | (constructor <;> omega) | exact hM _ | exact hPo _ | exact hTa _ | exact hRo _) (by first | assumption | exact b01_r | exact bz_r | omega | (constructor <;> omega) | exact hM _ | exact hPo _ | exact hTa _ | exact hRo _) (by omega) ?_
                refine rj_iconst (pc := 119) dX11_task_119 ?_
                refine rj_iadd (pc := 120) dX11_task_120 ?_
                first | refine rm_iast0 (pc := 121) (j := 3) dX11_task_121 (by assumption) (by first | assumption | exact b01_r | exact bz_r | omega | (constructor <;> omega) | exact hM _ | exact hPo _ | exact hTa _ | exact hRo _) (by first | assumption | exact b01_r | exact bz_r | omega | (constructor <;> omega) | exact hM _ | exact hPo _ | exact hTa _ | exact hRo _) (by first | assumption | exact b01_r | exact bz_r | omega | (constructor <;> omega) | exact hM _ | exact hPo _ | exact hTa _ | exact hRo _) (by omega) (fun h_121 hB_121 hS_121 => ?_)
                refine rj_iconst (pc := 122) dX11_task_122 ?_
                refine r_istore (pc := 123) dX11_task_123 (Nat.le_of_ble_eq_true rfl) ?_
                dsimp only [lsSt, List.set, mLs, mEnt]
                have z0 : (stepsW tape f6 0 true (ps0 f11 f12)).1 = true := by simpa using c_86
                have z1 : taskR tape (f6.toNat : Int) f11 f12 = wholeR f6 (stepsW tape f6 0 true (ps0 f11 f12)).2 := by rw [ef, hw]; unfold wR; rw [if_pos z0]
                have z3 : (taskF m pool tape a b f6.toNat f11 f12) = (m 3, newTaskM m a b f6.toNat, pooledP pool tape (m 8).toNat 0 f6.toNat) := by unfold taskF; rw [z1, if_pos (by simpa using c_93)]
                rw [z3]
                have hBq : isM h_121 x (mFs x f4 0 (wholeR f6 (stepsW tape f6 0 true (ps0 f11 f12)).2).2.1 f6 (wholeR f6 (stepsW tape f6 0 true (ps0 f11 f12)).2).2.2.1 (wholeR f6 (stepsW tape f6 0 true (ps0 f11 f12)).2).2.2.2.1 (wholeR f6 (stepsW tape f6 0 true (ps0 f11 f12)).2).2.2.2.2.1 (wholeR f6 (stepsW tape f6 0 true (ps0 f11 f12)).2).2.2.2.2.2 f14 f16 f18 4) (zrF (updI m 3 (m 3 + 1)) (1608 + 72 * (m 3).toNat) 0) kp was pool tape pln pap rwd rw := by rw [zrF_0]; exact hB_121
                have e3 : (((m 3).toNat : Nat) : Int) = m 3 := by omega
                rw [show J (m 3) = J (((m 3).toNat : Nat) : Int) by rw [e3]]
                refine (L_zero (G := G) (l := l) (T := (m 3).toNat) (by omega) (mm := updI m 3 (m 3 + 1)) (f6' := f6) (hz := h_121) (fun h1 S1 B1 => ?_) 72 0 _ (by omega) Same.refl hBq).deeper (by omega)
                rw [e3, show J f6 = J ((f6.toNat : Nat) : Int) by rw [ef]]
                exact L_taskT B1 hTa (by omega) h8 ⟨by omega, by omega⟩ ⟨by omega, by omega⟩ (fun h2 B2 S2 => Or.inr ⟨⟨c_5, c_18, c_29, c_43, c_54⟩, rfl, B2.isMs ⟨hwo.2.2.2.2.1, hwo.2.2.2.2.2.1⟩, (((((hS_67.trans S_77).trans S_83).trans S_90).trans hS_121).trans S1).trans S2⟩)
              · try simp only [b01_0, bz_0, Classical.not_not] at c_93
                refine rj_bipush (pc := 96) dX11_task_96 (by decide +kernel) ?_
                refine r_aload_n (pc := 98) dX11_task_98 rfl (by first | rfl | exact isRefV_rf _) ?_
                refine rm_getf (pc := 99) dX11_task_99 fX11_71 (by assumption) rfl ?_
                refine rj_isub (pc := 102) dX11_task_102 ?_
                refine r_ireturn (pc := 103) .int dX11_task_103 rfl (by first | rfl | assumption) ?_
                first
                | (have z0 : (stepsW tape f6 0 true (ps0 f11 f12)).1 = false := by simpa using c_86
                   have z1 : taskR tape (f6.toNat : Int) f11 f12 = (stepsW tape f6 0 true (ps0 f11 f12)) := by rw [ef, hw]; unfold wR; rw [if_neg (by rw [z0]; decide)]
                   have z3 : (taskF m pool tape a b f6.toNat f11 f12) = (-100 - (stepsW tape f6 0 true (ps0 f11 f12)).2.2.1, m, pool) := by unfold taskF; rw [z1, if_neg (by rw [z0]; decide)]
                   rw [z3]
                   exact Or.inr ⟨⟨c_5, c_18, c_29, c_43, c_54⟩, rfl, hB_83.isMs ⟨hqs.2.2.2.2.1, hqs.2.2.2.2.2.1⟩, (hS_67.trans S_77).trans S_83⟩)
                | (have z0 : (stepsW tape f6 0 true (ps0 f11 f12)).1 = true := by simpa using c_86
                   have z1 : taskR tape (f6.toNat : Int) f11 f12 = wholeR f6 (stepsW tape f6 0 true (ps0 f11 f12)).2 := by rw [ef, hw]; unfold wR; rw [if_pos z0]
                   have z2 : (wholeR f6 (stepsW tape f6 0 true (ps0 f11 f12)).2).1 = false := by simpa using c_93
                   have z3 : (taskF m pool tape a b f6.toNat f11 f12) = (-100 - (wholeR f6 (stepsW tape f6 0 true (ps0 f11 f12)).2).2.2.1, m, pool) := by unfold taskF; rw [z1, if_neg (by rw [z2]; decide)]
                   rw [z3]
                   exact Or.inr ⟨⟨c_5, c_18, c_29, c_43, c_54⟩, rfl, hB_90.isMs ⟨hwo.2.2.2.2.1, hwo.2.2.2.2.2.1⟩, ((hS_67.trans S_77).trans S_83).trans S_90⟩)
          · refine rj_bipush (pc := 57) dX11_task_57 (by decide +kernel) ?_
            refine r_ireturn (pc := 59) .int dX11_task_59 rfl (by first | rfl | assumption) ?_
            exact Or.inl ⟨fun g => by first | exact g.2.2.2.1 c_43 | exact g.2.2.2.2 c_54, by rw [show taskN m a b = -4 by unfold taskN; rw [if_pos c_5, if_pos c_18, if_pos c_29]], rfl⟩
      · try simp only [b01_0, bz_0, Classical.not_not] at c_29
        refine rj_bipush (pc := 32) dX11_task_32 (by decide +kernel) ?_
        refine r_ireturn (pc := 34) .int dX11_task_34 rfl (by first | rfl | assumption) ?_
        exact Or.inl ⟨fun g => c_29 g.2.2.1, by rw [show taskN m a b = -3 by unfold taskN; rw [if_pos c_5, if_pos c_18, if_neg c_29]], rfl⟩
    · try simp only [b01_0, bz_0, Classical.not_not] at c_18
      refine rj_bipush (pc := 21) dX11_task_21 (by decide +kernel) ?_
      refine r_ireturn (pc := 23) .int dX11_task_23 rfl (by first | rfl | assumption) ?_
      exact Or.inl ⟨fun g => c_18 g.2.1, by rw [show taskN m a b = -2 by unfold taskN; rw [if_pos c_5, if_neg c_18]], rfl⟩
  · try simp only [b01_0, bz_0, Classical.not_not] at c_5
    refine rj_iconst (pc := 8) dX11_task_8 ?_
    refine r_ireturn (pc := 9) .int dX11_task_9 rfl (by first | rfl | assumption) ?_
    exact Or.inl ⟨fun g => c_5 g.1, by rw [show taskN m a b = -1 from if_neg c_5], rfl⟩
