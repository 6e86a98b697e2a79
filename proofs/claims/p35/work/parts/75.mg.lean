section mg_75
/-! ===== the reference: take, rename, task ===== -/
def ps0 (f11 f12 : Int) : PS := (0, -1, f11, f12, 0)
theorem ps0_ok {len f11 f12 : Int} (h : 0 ≤ len) (h11 : 0 ≤ f11 ∧ f11 ≤ 99999) : psOk len (ps0 f11 f12) := ⟨Int.le_refl _, h, Int.le_refl _, by show (-1 : Int) ≤ len; omega, h11.1, h11.2, Int.le_refl _, by show (0 : Int) ≤ 0 + 90; omega⟩
/-- a text that was read must be read to its end -/
def wR (len : Int) (r : Bool × PS) : Bool × PS := if r.1 = true then wholeR len r.2 else r
theorem wholeR_ok {len : Int} {q : PS} (hq : psOk len q) : psOk len (wholeR len q).2 := by
  unfold wholeR; split
  · exact hq
  · exact fail_ok hq hq.1 hq.2.1
def bytesOk (tape : Nat → Int) : Prop := ∀ i, 0 ≤ tape i ∧ tape i ≤ 127
theorem isM.isMs {h : mH} {x s : Nat} {f4 f6 f8 f9 f10 f11 f12 f13 f14 f16 f18 : Int} {m kp was pool tape pln pap rwd rw : Nat → Int} (h11 : 0 ≤ f11 ∧ f11 ≤ 99999) (hB : isM h x (mFs x f4 f6 f8 f9 f10 f11 f12 f13 f14 f16 f18 s) m kp was pool tape pln pap rwd rw) : isMs h x f4 f6 f14 f16 f18 m kp was pool tape pln pap rwd rw := ⟨f8, f9, f10, f11, f12, f13, s, h11, hB⟩
def renR (tape : Nat → Int) (len f11 f12 : Int) : Bool × PS := wR len (decide (nameB tape len (ps0 f11 f12)), nameF tape len (ps0 f11 f12))
def renF (m tape : Nat → Int) (t : Nat) (len f11 f12 : Int) : Int × (Nat → Int) :=
  if (renR tape len f11 f12).1 = true then (if 0 ≤ hbL m tape 0 len.toNat (m 1).toNat 0 then (-3, m) else (len, namesM m tape t 0 len.toNat)) else (-100 - (renR tape len f11 f12).2.2.1, m)
theorem nameL_d {sr : Nat → Int} {len : Int} : ∀ (n : Nat) (q : PS), (nameL sr len n q).1 ≤ q.1 + n
  | 0, q => by unfold nameL; simp
  | n + 1, q => by
    unfold nameL
    split
    · have := nameL_d (sr := sr) (len := len) n (advF q); have e : (advF q).1 = q.1 + 1 := rfl; omega
    · omega
theorem renR_7 {tape : Nat → Int} {len f11 f12 : Int} (h : (renR tape len f11 f12).1 = true) : len ≤ 7 := by
  by_cases c : nameB tape len (ps0 f11 f12)
  · have d := nameL_d (sr := tape) (len := len) 7 (ps0 f11 f12)
    have e : renR tape len f11 f12 = wholeR len (nameF tape len (ps0 f11 f12)) := by unfold renR wR; rw [if_pos (decide_eq_true c)]
    rw [e] at h
    unfold wholeR at h
    split at h
    · rename_i g
      obtain ⟨g1, -⟩ := g
      rw [show nameF tape len (ps0 f11 f12) = nameL tape len 7 (ps0 f11 f12) from if_pos c] at g1
      have e0 : (ps0 f11 f12).1 = 0 := rfl
      omega
    · cases h
  · have e : renR tape len f11 f12 = (decide (nameB tape len (ps0 f11 f12)), nameF tape len (ps0 f11 f12)) := by
      unfold renR wR
      rw [if_neg (by show ¬ (decide _ = true); rw [decide_eq_false c]; decide)]
    rw [e, decide_eq_false c] at h
    cases h
set_option maxHeartbeats 4000000 in
set_option maxRecDepth 100000 in
theorem m_rename {G : mG} {l : Launch} {h : mH} {x s : Nat} {f4 f6 f8 f9 f10 f11 f12 f13 f14 f16 f18 : Int} {m kp was pool tape pln pap rwd rw : Nat → Int}(hB : isM h x (mFs x f4 f6 f8 f9 f10 f11 f12 f13 f14 f16 f18 s) m kp was pool tape pln pap rwd rw) (hok : mOk m) (hT : bytesOk tape) (h6 : 0 ≤ f6 ∧ f6 ≤ 120) (h11 : 0 ≤ f11 ∧ f11 ≤ 99999) {t : Int} (ht : InR t) : RUNM G l 40 mX11_rename [.ref x, .int (J t)] h (fun v h' => (¬ closeDo m t ∧ v = some (.int (J (closeN m t))) ∧ h' = h) ∨ (closeDo m t ∧ v = some (.int (J (renF m tape t.toNat f6 f11 f12).1)) ∧ isMs h' x f4 0 f14 f16 f18 (renF m tape t.toNat f6 f11 f12).2 kp was pool tape pln pap rwd rw ∧ Same (mBlk x) h h')) := by
  obtain ⟨hM, k0, k1, k2, k3, k4, k5, k7⟩ := id hok
  have hB0 := hB
  have hTx : txOk 4 tape pool tape f6 := ⟨Or.inl ⟨rfl, rfl, h6.2⟩, h6.1, hT⟩
  have hq0 : psOk f6 (ps0 f11 f12) := ps0_ok h6.1 h11
  have hqn := name_ok (sr := tape) hq0
  have hTa : ∀ q, InR (tape q) := fun q => by have := hT q; exact ⟨by omega, by omega⟩
  have hw2 : (renR tape f6 f11 f12).2 = (if nameB tape f6 (ps0 f11 f12) then (wholeR f6 (nameF tape f6 (ps0 f11 f12))).2 else nameF tape f6 (ps0 f11 f12)) := by
    unfold renR wR; by_cases c : nameB tape f6 (ps0 f11 f12) <;> simp [c]
  have hw1 : (renR tape f6 f11 f12).1 = (if nameB tape f6 (ps0 f11 f12) then (wholeR f6 (nameF tape f6 (ps0 f11 f12))).1 else false) := by
    unfold renR wR; by_cases c : nameB tape f6 (ps0 f11 f12) <;> simp [c]
  dsimp only [mFs] at hB
  refine RUNM.of (by decide +kernel) (Nat.le_of_ble_eq_true rfl) ?_
  refine r_aload_n (pc := 0) dX11_rename_0 rfl (by first | rfl | exact isRefV_rf _) ?_
  refine r_iload_n (pc := 1) dX11_rename_1 rfl ?_
  refine r_callV1 (pc := 2) dX11_rename_2 qX11_isThing kX11_238 vX11_isThing (by exact isM.gx (by assumption)) rfl rfl (Nat.le_of_ble_eq_true rfl) ((m_isThing 0 hB0 ht ⟨by omega, by omega⟩).deeper (by omega)) (fun v_2 h_2 q_2 => ?_)
  obtain ⟨rfl, rfl⟩ := q_2
  refine rj_if_ne (pc := 5) (tgt := 10) dX11_rename_5 (by decide) (by first | assumption | exact b01_r | exact bz_r | omega | (constructor <;> omega) | exact hM _ | exact hPo _ | exact hTa _ | exact hRo _) (fun c_5 => ?_) (fun c_5 => ?_)
  · try simp only [b01_0, bz_0, Classical.not_not] at c_5
    refine r_aload_n (pc := 10) dX11_rename_10 rfl (by first | rfl | exact isRefV_rf _) ?_
    refine r_iload_n (pc := 11) dX11_rename_11 rfl ?_
    refine r_callV1 (pc := 12) dX11_rename_12 qX11_isHeld kX11_119 vX11_isHeld (by exact isM.gx (by assumption)) rfl rfl (Nat.le_of_ble_eq_true rfl) ((m_isHeld 0 hB0 hM (by omega) (by omega)).deeper (by omega)) (fun v_12 h_12 q_12 => ?_)
    obtain ⟨rfl, rfl⟩ := q_12
    refine rj_if_ne (pc := 15) (tgt := 21) dX11_rename_15 (by decide) (by first | assumption | exact b01_r | exact bz_r | omega | (constructor <;> omega) | exact hM _ | exact hPo _ | exact hTa _ | exact hRo _) (fun c_15 => ?_) (fun c_15 => ?_)
    · try simp only [b01_0, bz_0, Classical.not_not] at c_15
      refine r_aload_n (pc := 21) dX11_rename_21 rfl (by first | rfl | exact isRefV_rf _) ?_
      refine rm_getf (pc := 22) dX11_rename_22 fX11_61 (by assumption) rfl ?_
      refine r_istore_n (pc := 25) dX11_rename_25 (Nat.le_of_ble_eq_true rfl) ?_
      dsimp only [lsSt, List.set, mLs, mEnt]
      refine r_aload_n (pc := 26) dX11_rename_26 rfl (by first | rfl | exact isRefV_rf _) ?_
      refine rj_iconst (pc := 27) dX11_rename_27 ?_
      refine rm_putf (pc := 28) dX11_rename_28 fX11_61 (by assumption) rfl rfl (Nat.le_of_ble_eq_true rfl) (fun h_28 hB_28 hS_28 => ?_)
      dsimp only [List.set, mFs] at hB_28
      refine r_aload_n (pc := 31) dX11_rename_31 rfl (by first | rfl | exact isRefV_rf _) ?_
      refine r_aload_n (pc := 32) dX11_rename_32 rfl (by first | rfl | exact isRefV_rf _) ?_
      refine rm_getf (pc := 33) dX11_rename_33 fX11_24 (by assumption) rfl ?_
      refine rj_iconst (pc := 36) dX11_rename_36 ?_
      refine r_iload_n (pc := 37) dX11_rename_37 rfl ?_
      refine r_callV3 (pc := 38) dX11_rename_38 qX11_begins kX11_115 vX11_begins (by exact isM.gx (by assumption)) rfl rfl (Nat.le_of_ble_eq_true rfl) ((m_begins 0 (show isM h_28 x (mFs x f4 0 f8 f9 f10 f11 f12 f13 f14 f16 f18 s) m kp was pool tape pln pap rwd rw from hB_28)).deeper (by omega)) (fun v_38 h_38 q_38 => ?_)
      obtain ⟨rfl, hB_38, S_38⟩ := q_38
      have hQ_38 : isM h_38 x (mFs x f4 0 (ps0 f11 f12).1 f6 (ps0 f11 f12).2.1 (ps0 f11 f12).2.2.1 (ps0 f11 f12).2.2.2.1 (ps0 f11 f12).2.2.2.2 f14 f16 f18 4) m kp was pool tape pln pap rwd rw := hB_38
      refine r_aload_n (pc := 41) dX11_rename_41 rfl (by first | rfl | exact isRefV_rf _) ?_
      refine r_callV0 (pc := 42) dX11_rename_42 qX11_isName kX11_88 vX11_isName (by exact isM.gx (by assumption)) rfl rfl (Nat.le_of_ble_eq_true rfl) ((m_isName 0 hQ_38 hTx hq0).deeper (by omega)) (fun v_42 h_42 q_42 => ?_)
      obtain ⟨rfl, hB_42, S_42⟩ := q_42
      refine rj_if_eq (pc := 45) (tgt := 55) dX11_rename_45 (by decide) (by first | assumption | exact b01_r | exact bz_r | omega | (constructor <;> omega) | exact hM _ | exact hPo _ | exact hTa _ | exact hRo _) (fun c_45 => ?_) (fun c_45 => ?_)
      · try simp only [b01_0, bz_0, Classical.not_not] at c_45
        refine rj_bipush (pc := 55) dX11_rename_55 (by decide +kernel) ?_
        refine r_aload_n (pc := 57) dX11_rename_57 rfl (by first | rfl | exact isRefV_rf _) ?_
        refine rm_getf (pc := 58) dX11_rename_58 fX11_71 (by assumption) rfl ?_
        refine rj_isub (pc := 61) dX11_rename_61 ?_
        refine r_ireturn (pc := 62) .int dX11_rename_62 rfl (by first | rfl | assumption) ?_
        first
        | (have z1 : (renR tape f6 f11 f12).1 = false := by rw [hw1, if_neg c_45]
           have z2 : (renR tape f6 f11 f12).2 = (nameF tape f6 (ps0 f11 f12)) := by rw [hw2, if_neg c_45]
           have z3 : renF m tape t.toNat f6 f11 f12 = (-100 - (nameF tape f6 (ps0 f11 f12)).2.1, m) := by unfold renF; rw [if_neg (by rw [z1]; decide), z2]
           rw [z3]
           exact Or.inr ⟨⟨c_5, c_15⟩, rfl, hB_42.isMs ⟨hqn.2.2.2.2.1, hqn.2.2.2.2.2.1⟩, ((hS_28.trans S_38).trans S_42)⟩)
        | (have z1 : (renR tape f6 f11 f12).1 = false := by rw [hw1, if_pos c_45]; simpa using c_52
           have z2 : (renR tape f6 f11 f12).2 = (wholeR f6 (nameF tape f6 (ps0 f11 f12))).2 := by rw [hw2, if_pos c_45]
           have z3 : renF m tape t.toNat f6 f11 f12 = (-100 - (wholeR f6 (nameF tape f6 (ps0 f11 f12))).2.2.1, m) := by unfold renF; rw [if_neg (by rw [z1]; decide), z2]
           rw [z3]
           exact Or.inr ⟨⟨c_5, c_15⟩, rfl, hB_49.isMs ⟨hwo.2.2.2.2.1, hwo.2.2.2.2.2.1⟩, (((hS_28.trans S_38).trans S_42).trans S_49)⟩)
      · try simp only [b01_0, bz_0, Classical.not_not] at c_45
        refine r_aload_n (pc := 48) dX11_rename_48 rfl (by first | rfl | exact isRefV_rf _) ?_
        refine r_callV0 (pc := 49) dX11_rename_49 qX11_isWhole kX11_217 vX11_isWhole (by exact isM.gx (by assumption)) rfl rfl (Nat.le_of_ble_eq_true rfl) ((m_isWhole 0 hB_42 hTx hqn).deeper (by omega)) (fun v_49 h_49 q_49 => ?_)
        obtain ⟨rfl, hB_49, S_49⟩ := q_49
        have hwo := wholeR_ok hqn
        refine rj_if_ne (pc := 52) (tgt := 63) dX11_rename_52 (by decide) (by first | assumption | exact b01_r | exact bz_r | omega | (constructor <;> omega) | exact hM _ | exact hPo _ | exact hTa _ | exact hRo _) (fun c_52 => ?_) (fun c_52 => ?_)
        · try simp only [b01_0, bz_0, Classical.not_not] at c_52
          have z1 : (renR tape f6 f11 f12).1 = true := by rw [hw1, if_pos c_45]; simpa using c_52
          have z7 := renR_7 z1
          have rhb := hbL_r (m := m) (rc := tape) (fr := 0) (to := f6.toNat) (m 1).toNat 0
          refine r_aload_n (pc := 63) dX11_rename_63 rfl (by first | rfl | exact isRefV_rf _) ?_
          refine r_aload_n (pc := 64) dX11_rename_64 rfl (by first | rfl | exact isRefV_rf _) ?_
          refine rm_getf (pc := 65) dX11_rename_65 fX11_24 (by assumption) rfl ?_
          refine rj_iconst (pc := 68) dX11_rename_68 ?_
          refine r_iload_n (pc := 69) dX11_rename_69 rfl ?_
          refine r_callV3 (pc := 70) dX11_rename_70 qX11_heldBy kX11_163 vX11_heldBy (by exact isM.gx (by assumption)) rfl rfl (Nat.le_of_ble_eq_true rfl) (by have y := m_heldBy (G := G) (l := l) 0 hB_49 hM (rs := 4) (rc := tape) (fr := 0) (to := f6.toNat) (Or.inl ⟨rfl, rfl, by omega⟩) (by omega) hTa (N := (m 1).toNat) (by omega) (by omega) (fun t ht => k7 t (by omega)); rw [show ((f6.toNat : Nat) : Int) = f6 by omega] at y; exact y.deeper (by omega)) (fun v_70 h_70 q_70 => ?_)
          obtain ⟨rfl, rfl⟩ := q_70
          refine rj_if_lt (pc := 73) (tgt := 79) dX11_rename_73 (by decide) (by first | assumption | exact b01_r | exact bz_r | omega | (constructor <;> omega) | exact hM _ | exact hPo _ | exact hTa _ | exact hRo _) (fun c_73 => ?_) (fun c_73 => ?_)
          · refine r_aload_n (pc := 79) dX11_rename_79 rfl (by first | rfl | exact isRefV_rf _) ?_
            refine r_iload_n (pc := 80) dX11_rename_80 rfl ?_
            refine r_aload_n (pc := 81) dX11_rename_81 rfl (by first | rfl | exact isRefV_rf _) ?_
            refine rm_getf (pc := 82) dX11_rename_82 fX11_24 (by assumption) rfl ?_
            refine rj_iconst (pc := 85) dX11_rename_85 ?_
            refine r_iload_n (pc := 86) dX11_rename_86 rfl ?_
            refine r_callV4 (pc := 87) dX11_rename_87 qX11_names kX11_129 vX11_names (by exact isM.gx (by assumption)) rfl rfl (Nat.le_of_ble_eq_true rfl) (by have y := m_names (G := G) (l := l) 0 hB_49 (rs := 4) (rc := tape) (fr := 0) (to := f6.toNat) (Or.inl ⟨rfl, rfl, by omega⟩) (by omega) (by omega) (t := t.toNat) (by omega); rw [show ((f6.toNat : Nat) : Int) = f6 by omega, show ((t.toNat : Nat) : Int) = t by omega] at y; exact y.deeper (by omega)) (fun v_87 h_87 q_87 => ?_)
            obtain ⟨rfl, hB_87, S_87⟩ := q_87
            refine r_iload_n (pc := 90) dX11_rename_90 rfl ?_
            refine r_ireturn (pc := 91) .int dX11_rename_91 rfl (by first | rfl | assumption) ?_
            have z3 : renF m tape t.toNat f6 f11 f12 = (f6, namesM m tape t.toNat 0 f6.toNat) := by unfold renF; rw [if_pos z1, if_neg (by omega)]
            rw [z3]
            exact Or.inr ⟨⟨c_5, c_15⟩, rfl, hB_87.isMs ⟨hwo.2.2.2.2.1, hwo.2.2.2.2.2.1⟩, ((((hS_28.trans S_38).trans S_42).trans S_49).trans S_87)⟩
          · refine rj_bipush (pc := 76) dX11_rename_76 (by decide +kernel) ?_
            refine r_ireturn (pc := 78) .int dX11_rename_78 rfl (by first | rfl | assumption) ?_
            have z3 : renF m tape t.toNat f6 f11 f12 = (-3, m) := by unfold renF; rw [if_pos z1, if_pos (by omega)]
            rw [z3]
            exact Or.inr ⟨⟨c_5, c_15⟩, rfl, hB_49.isMs ⟨hwo.2.2.2.2.1, hwo.2.2.2.2.2.1⟩, (((hS_28.trans S_38).trans S_42).trans S_49)⟩
        · try simp only [b01_0, bz_0, Classical.not_not] at c_52
          refine rj_bipush (pc := 55) dX11_rename_55 (by decide +kernel) ?_
          refine r_aload_n (pc := 57) dX11_rename_57 rfl (by first | rfl | exact isRefV_rf _) ?_
          refine rm_getf (pc := 58) dX11_rename_58 fX11_71 (by assumption) rfl ?_
          refine rj_isub (pc := 61) dX11_rename_61 ?_
          refine r_ireturn (pc := 62) .int dX11_rename_62 rfl (by first | rfl | assumption) ?_
          first
          | (have z1 : (renR tape f6 f11 f12).1 = false := by rw [hw1, if_neg c_45]
             have z2 : (renR tape f6 f11 f12).2 = (nameF tape f6 (ps0 f11 f12)) := by rw [hw2, if_neg c_45]
             have z3 : renF m tape t.toNat f6 f11 f12 = (-100 - (nameF tape f6 (ps0 f11 f12)).2.1, m) := by unfold renF; rw [if_neg (by rw [z1]; decide), z2]
             rw [z3]
             exact Or.inr ⟨⟨c_5, c_15⟩, rfl, hB_42.isMs ⟨hqn.2.2.2.2.1, hqn.2.2.2.2.2.1⟩, ((hS_28.trans S_38).trans S_42)⟩)
          | (have z1 : (renR tape f6 f11 f12).1 = false := by rw [hw1, if_pos c_45]; simpa using c_52
             have z2 : (renR tape f6 f11 f12).2 = (wholeR f6 (nameF tape f6 (ps0 f11 f12))).2 := by rw [hw2, if_pos c_45]
             have z3 : renF m tape t.toNat f6 f11 f12 = (-100 - (wholeR f6 (nameF tape f6 (ps0 f11 f12))).2.2.1, m) := by unfold renF; rw [if_neg (by rw [z1]; decide), z2]
             rw [z3]
             exact Or.inr ⟨⟨c_5, c_15⟩, rfl, hB_49.isMs ⟨hwo.2.2.2.2.1, hwo.2.2.2.2.2.1⟩, (((hS_28.trans S_38).trans S_42).trans S_49)⟩)
    · try simp only [b01_0, bz_0, Classical.not_not] at c_15
      refine rj_bipush (pc := 18) dX11_rename_18 (by decide +kernel) ?_
      refine r_ireturn (pc := 20) .int dX11_rename_20 rfl (by first | rfl | assumption) ?_
      exact Or.inl ⟨fun g => c_15 g.2, by rw [show closeN m t = -3 from if_pos c_5], rfl⟩
  · try simp only [b01_0, bz_0, Classical.not_not] at c_5
    refine rj_iconst (pc := 8) dX11_rename_8 ?_
    refine r_ireturn (pc := 9) .int dX11_rename_9 rfl (by first | rfl | assumption) ?_
    exact Or.inl ⟨fun g => c_5 g.1, by rw [show closeN m t = -1 from if_neg c_5], rfl⟩
def takeF (m pool tape : Nat → Int) (a : Int) (len E : Nat) (r : Bool × PS) : Int × (Nat → Int) × (Nat → Int) :=
  if (wR len r).1 = true then (if m 1 = 90 then (-4, m, pool) else (if 0 ≤ hbL m tape 0 E (m 1).toNat 0 then (-3, m, pool) else
    (m 1, if E = len then (takesM m tape (m 1).toNat a 0 E 0 0, pool) else (takesM (updI m 8 (m 8 + (len - (E + 1) : Nat) + 1)) tape (m 1).toNat a 0 E (m 8) (m 8 + len - E - 1), pooledP pool tape (m 8).toNat (E + 1) len))))
  else (-100 - (wR len r).2.2.1, m, pool)
set_option maxHeartbeats 4000000 in
set_option maxRecDepth 100000 in
theorem L_takeT {G : mG} {l : Launch} {h : mH} {x len E : Nat} {f4 f14 f16 f18 : Int} {m kp was pool tape pln pap rwd rw : Nat → Int} {r : Bool × PS} (hB : isM h x (mFs x f4 0 r.2.1 (len : Int) r.2.2.1 r.2.2.2.1 r.2.2.2.2.1 r.2.2.2.2.2 f14 f16 f18 4) m kp was pool tape pln pap rwd rw) (hok : mOk m) (hT : bytesOk tape) (hl : len ≤ 120) (hq : psOk len r.2) (h8 : 0 ≤ m 8 ∧ m 8 + 130 ≤ 12342) (hE : E ≤ len) (hE7 : E ≤ 7) {a : Int} : RUN G l 40 mX11_take 82 [some (.ref x), some (.int (J a)), some (.int (J (len : Int))), some (.int (J (bz r.1))), some (.int (J (E : Int))), none] [] h (fun v h' => v = some (.int (J (takeF m pool tape a len E r).1)) ∧ isMs h' x f4 0 f14 f16 f18 (takeF m pool tape a len E r).2.1 kp was (takeF m pool tape a len E r).2.2 tape pln pap rwd rw ∧ Same (mBlk x) h h') := by
  obtain ⟨hM, k0, k1, k2, k3, k4, k5, k7⟩ := id hok
  have hB0 := hB
  have hTx : txOk 4 tape pool tape (len : Int) := ⟨Or.inl ⟨rfl, rfl, by omega⟩, by omega, hT⟩
  have hTa : ∀ q, InR (tape q) := fun q => by have := hT q; exact ⟨by omega, by omega⟩
  have hwo := wholeR_ok hq
  have r1 := hM 1
  dsimp only [mFs] at hB
  refine r_iload_n (pc := 82) dX11_take_82 rfl ?_
  refine rj_if_eq (pc := 83) (tgt := 93) dX11_take_83 (by decide) (by first | assumption | exact b01_r | exact bz_r | omega | (constructor <;> omega) | exact hM _ | exact hPo _ | exact hTa _ | exact hRo _) (fun c_83 => ?_) (fun c_83 => ?_)
  · try simp only [b01_0, bz_0, Classical.not_not] at c_83
    refine rj_bipush (pc := 93) dX11_take_93 (by decide +kernel) ?_
    refine r_aload_n (pc := 95) dX11_take_95 rfl (by first | rfl | exact isRefV_rf _) ?_
    refine rm_getf (pc := 96) dX11_take_96 fX11_71 (by assumption) rfl ?_
    refine rj_isub (pc := 99) dX11_take_99 ?_
    refine r_ireturn (pc := 100) .int dX11_take_100 rfl (by first | rfl | assumption) ?_
    first
    | (have z0 : r.1 = false := by simpa using c_83
       have z1 : wR len r = r := by unfold wR; rw [if_neg (by rw [z0]; decide)]
       have z3 : takeF m pool tape a len E r = (-100 - r.2.2.1, m, pool) := by unfold takeF; rw [z1, if_neg (by rw [z0]; decide)]
       rw [z3]
       exact ⟨rfl, hB0.isMs ⟨hq.2.2.2.2.1, hq.2.2.2.2.2.1⟩, Same.refl⟩)
    | (have z0 : r.1 = true := by simpa using c_83
       have z1 : wR len r = wholeR len r.2 := by unfold wR; rw [if_pos z0]
       have z2 : (wholeR len r.2).1 = false := by simpa using c_90
       have z3 : takeF m pool tape a len E r = (-100 - (wholeR len r.2).2.2.1, m, pool) := by unfold takeF; rw [z1, if_neg (by rw [z2]; decide)]
       rw [z3]
       exact ⟨rfl, hB_87.isMs ⟨hwo.2.2.2.2.1, hwo.2.2.2.2.2.1⟩, S_87⟩)
  · try simp only [b01_0, bz_0, Classical.not_not] at c_83
    refine r_aload_n (pc := 86) dX11_take_86 rfl (by first | rfl | exact isRefV_rf _) ?_
    refine r_callV0 (pc := 87) dX11_take_87 qX11_isWhole kX11_217 vX11_isWhole (by exact isM.gx (by assumption)) rfl rfl (Nat.le_of_ble_eq_true rfl) ((m_isWhole 0 hB0 hTx hq).deeper (by omega)) (fun v_87 h_87 q_87 => ?_)
    obtain ⟨rfl, hB_87, S_87⟩ := q_87
    refine rj_if_ne (pc := 90) (tgt := 101) dX11_take_90 (by decide) (by first | assumption | exact b01_r | exact bz_r | omega | (constructor <;> omega) | exact hM _ | exact hPo _ | exact hTa _ | exact hRo _) (fun c_90 => ?_) (fun c_90 => ?_)
    · try simp only [b01_0, bz_0, Classical.not_not] at c_90
      have z0 : r.1 = true := by simpa using c_83
      have zw : (wR len r).1 = true := by unfold wR; rw [if_pos z0]; simpa using c_90
      have rhb := hbL_r (m := m) (rc := tape) (fr := 0) (to := E) (m 1).toNat 0
      refine r_aload_n (pc := 101) dX11_take_101 rfl (by first | rfl | exact isRefV_rf _) ?_
      refine rm_getf (pc := 102) dX11_take_102 fX11_11 (by assumption) rfl ?_
      refine rj_iconst (pc := 105) dX11_take_105 ?_
      refine rj_iald (pc := 106) (j := 1) dX11_take_106 (by first | exact isM.g0 (by assumption) | exact isM.g3 (by assumption) | exact isM.g4 (by assumption) | exact isM.g8 (by assumption) | exact isM.g7 (by assumption) | exact isM.g6 (by assumption) | exact isM.g5 (by assumption) | exact isM.g1 (by assumption) | exact isM.g2 (by assumption)) (by first | assumption | exact b01_r | exact bz_r | omega | (constructor <;> omega) | exact hM _ | exact hPo _ | exact hTa _ | exact hRo _) (by first | assumption | exact b01_r | exact bz_r | omega | (constructor <;> omega) | exact hM _ | exact hPo _ | exact hTa _ | exact hRo _) (by first | assumption | exact b01_r | exact bz_r | omega | (constructor <;> omega) | exact hM _ | exact hPo _ | exact hTa _ | exact hRo _) (by omega) ?_
      refine rj_bipush (pc := 107) dX11_take_107 (by decide +kernel) ?_
      refine rj_icmp_ne (pc := 109) (tgt := 115) dX11_take_109 (by decide) (by first | assumption | exact b01_r | exact bz_r | omega | (constructor <;> omega) | exact hM _ | exact hPo _ | exact hTa _ | exact hRo _) (by first | assumption | exact b01_r | exact bz_r | omega | (constructor <;> omega) | exact hM _ | exact hPo _ | exact hTa _ | exact hRo _) (fun c_109 => ?_) (fun c_109 => ?_)
      · refine r_aload_n (pc := 115) dX11_take_115 rfl (by first | rfl | exact isRefV_rf _) ?_
        refine r_aload_n (pc := 116) dX11_take_116 rfl (by first | rfl | exact isRefV_rf _) ?_
        refine rm_getf (pc := 117) dX11_take_117 fX11_24 (by assumption) rfl ?_
        refine rj_iconst (pc := 120) dX11_take_120 ?_
        refine r_iload (pc := 121) dX11_take_121 rfl ?_
        refine r_callV3 (pc := 123) dX11_take_123 qX11_heldBy kX11_163 vX11_heldBy (by exact isM.gx (by assumption)) rfl rfl (Nat.le_of_ble_eq_true rfl) (by have y := m_heldBy (G := G) (l := l) 0 hB_87 hM (rs := 4) (rc := tape) (fr := 0) (to := E) (Or.inl ⟨rfl, rfl, by omega⟩) (by omega) hTa (N := (m 1).toNat) (by omega) (by omega) (fun t ht => k7 t (by omega)); exact y.deeper (by omega)) (fun v_123 h_123 q_123 => ?_)
        obtain ⟨rfl, rfl⟩ := q_123
        refine rj_if_lt (pc := 126) (tgt := 132) dX11_take_126 (by decide) (by first | assumption | exact b01_r | exact bz_r | omega | (constructor <;> omega) | exact hM _ | exact hPo _ | exact hTa _ | exact hRo _) (fun c_126 => ?_) (fun c_126 => ?_)
        · refine r_iload (pc := 132) dX11_take_132 rfl ?_
          refine r_iload_n (pc := 134) dX11_take_134 rfl ?_
          refine rj_icmp_ne (pc := 135) (tgt := 142) dX11_take_135 (by decide) (by first | assumption | exact b01_r | exact bz_r | omega | (constructor <;> omega) | exact hM _ | exact hPo _ | exact hTa _ | exact hRo _) (by first | assumption | exact b01_r | exact bz_r | omega | (constructor <;> omega) | exact hM _ | exact hPo _ | exact hTa _ | exact hRo _) (fun c_135 => ?_) (fun c_135 => ?_)
          · refine r_aload_n (pc := 142) dX11_take_142 rfl (by first | rfl | exact isRefV_rf _) ?_
            refine r_iload (pc := 143) dX11_take_143 rfl ?_
            refine rj_iconst (pc := 145) dX11_take_145 ?_
            refine rj_iadd (pc := 146) dX11_take_146 ?_
            refine r_iload_n (pc := 147) dX11_take_147 rfl ?_
            refine r_callV2 (pc := 148) dX11_take_148 qX11_pooled kX11_220 vX11_pooled (by exact isM.gx (by assumption)) rfl rfl (Nat.le_of_ble_eq_true rfl) (by have y := m_pooled (G := G) (l := l) 0 hB_87 (a := E + 1) (b := len) (p := (m 8).toNat) hTa (by omega) (by omega) (by omega) (by omega); rw [show ((E + 1 : Nat) : Int) = (E : Int) + 1 by omega] at y; exact y.deeper (by omega)) (fun v_148 h_148 q_148 => ?_)
            obtain ⟨rfl, hB_148, S_148⟩ := q_148
            refine r_istore (pc := 151) dX11_take_151 (Nat.le_of_ble_eq_true rfl) ?_
            dsimp only [lsSt, List.set, mLs, mEnt]
            refine r_aload_n (pc := 153) dX11_take_153 rfl (by first | rfl | exact isRefV_rf _) ?_
            refine r_iload_n (pc := 154) dX11_take_154 rfl ?_
            refine r_aload_n (pc := 155) dX11_take_155 rfl (by first | rfl | exact isRefV_rf _) ?_
            refine rm_getf (pc := 156) dX11_take_156 fX11_24 (by assumption) rfl ?_
            refine rj_iconst (pc := 159) dX11_take_159 ?_
            refine r_iload (pc := 160) dX11_take_160 rfl ?_
            refine r_iload (pc := 162) dX11_take_162 rfl ?_
            refine r_iload (pc := 164) dX11_take_164 rfl ?_
            refine r_iload_n (pc := 166) dX11_take_166 rfl ?_
            refine rj_icmp_ne (pc := 167) (tgt := 174) dX11_take_167 (by decide) (by first | assumption | exact b01_r | exact bz_r | omega | (constructor <;> omega) | exact hM _ | exact hPo _ | exact hTa _ | exact hRo _) (by first | assumption | exact b01_r | exact bz_r | omega | (constructor <;> omega) | exact hM _ | exact hPo _ | exact hTa _ | exact hRo _) (fun c_167 => ?_) (fun c_167 => ?_)
            · refine r_iload (pc := 174) dX11_take_174 rfl ?_
              refine r_iload_n (pc := 176) dX11_take_176 rfl ?_
              refine rj_iadd (pc := 177) dX11_take_177 ?_
              refine r_iload (pc := 178) dX11_take_178 rfl ?_
              refine rj_isub (pc := 180) dX11_take_180 ?_
              refine rj_iconst (pc := 181) dX11_take_181 ?_
              refine rj_isub (pc := 182) dX11_take_182 ?_
              refine r_callV6 (pc := 183) dX11_take_183 qX11_takes kX11_167 vX11_takes (by exact isM.gx (by assumption)) rfl rfl (Nat.le_of_ble_eq_true rfl) (by have y := m_takes (G := G) (l := l) 0 hB_148 (rs := 4) (rc := tape) (fr := 0) (to := E) (Or.inl ⟨rfl, rfl, by omega⟩) (by omega) (by omega) (N := (m 1).toNat) (by rw [updI_n (by decide)]; omega) (by omega) (o := a) (p := ((m 8).toNat : Int)) (e := (((m 8).toNat : Int) + (len : Int) - (E : Int) - 1)); exact y.deeper (by omega)) (fun v_183 h_183 q_183 => ?_)
              obtain ⟨rfl, hB_183, S_183⟩ := q_183
              refine r_ireturn (pc := 186) .int dX11_take_186 rfl (by first | rfl | assumption) ?_
              first
              | (have z3 : takeF m pool tape a len E r = (m 1, takesM m tape (m 1).toNat a 0 E 0 0, pool) := by unfold takeF; rw [if_pos zw, if_neg c_109, if_neg (by omega), if_pos (by omega)]
                 rw [z3]
                 exact ⟨by congr 3; omega, hB_183.isMs ⟨hwo.2.2.2.2.1, hwo.2.2.2.2.2.1⟩, S_87.trans S_183⟩)
              | (have z8 : ((m 8).toNat : Int) = m 8 := by omega
                 rw [z8] at hB_183
                 have z3 : takeF m pool tape a len E r = (m 1, takesM (updI m 8 (m 8 + (len - (E + 1) : Nat) + 1)) tape (m 1).toNat a 0 E (m 8) (m 8 + len - E - 1), pooledP pool tape (m 8).toNat (E + 1) len) := by unfold takeF; rw [if_pos zw, if_neg c_109, if_neg (by omega), if_neg (by omega)]
                 rw [z3]
                 exact ⟨by congr 3; omega, hB_183.isMs ⟨hwo.2.2.2.2.1, hwo.2.2.2.2.2.1⟩, (S_87.trans S_148).trans S_183⟩)
            · exfalso; omega
          · refine rj_iconst (pc := 138) dX11_take_138 ?_
            refine r_goto (pc := 139) (tgt := 151) dX11_take_139 (by decide) ?_
            refine r_istore (pc := 151) dX11_take_151 (Nat.le_of_ble_eq_true rfl) ?_
            dsimp only [lsSt, List.set, mLs, mEnt]
            refine r_aload_n (pc := 153) dX11_take_153 rfl (by first | rfl | exact isRefV_rf _) ?_
            refine r_iload_n (pc := 154) dX11_take_154 rfl ?_
            refine r_aload_n (pc := 155) dX11_take_155 rfl (by first | rfl | exact isRefV_rf _) ?_
            refine rm_getf (pc := 156) dX11_take_156 fX11_24 (by assumption) rfl ?_
            refine rj_iconst (pc := 159) dX11_take_159 ?_
            refine r_iload (pc := 160) dX11_take_160 rfl ?_
            refine r_iload (pc := 162) dX11_take_162 rfl ?_
            refine r_iload (pc := 164) dX11_take_164 rfl ?_
            refine r_iload_n (pc := 166) dX11_take_166 rfl ?_
            refine rj_icmp_ne (pc := 167) (tgt := 174) dX11_take_167 (by decide) (by first | assumption | exact b01_r | exact bz_r | omega | (constructor <;> omega) | exact hM _ | exact hPo _ | exact hTa _ | exact hRo _) (by first | assumption | exact b01_r | exact bz_r | omega | (constructor <;> omega) | exact hM _ | exact hPo _ | exact hTa _ | exact hRo _) (fun c_167 => ?_) (fun c_167 => ?_)
            · exfalso; omega
            · refine rj_iconst (pc := 170) dX11_take_170 ?_
              refine r_goto (pc := 171) (tgt := 183) dX11_take_171 (by decide) ?_
              refine r_callV6 (pc := 183) dX11_take_183 qX11_takes kX11_167 vX11_takes (by exact isM.gx (by assumption)) rfl rfl (Nat.le_of_ble_eq_true rfl) (by have y := m_takes (G := G) (l := l) 0 hB_87 (rs := 4) (rc := tape) (fr := 0) (to := E) (Or.inl ⟨rfl, rfl, by omega⟩) (by omega) (by omega) (N := (m 1).toNat) (by omega) (by omega) (o := a) (p := 0) (e := 0); exact y.deeper (by omega)) (fun v_183 h_183 q_183 => ?_)
              obtain ⟨rfl, hB_183, S_183⟩ := q_183
              refine r_ireturn (pc := 186) .int dX11_take_186 rfl (by first | rfl | assumption) ?_
              first
              | (have z3 : takeF m pool tape a len E r = (m 1, takesM m tape (m 1).toNat a 0 E 0 0, pool) := by unfold takeF; rw [if_pos zw, if_neg c_109, if_neg (by omega), if_pos (by omega)]
                 rw [z3]
                 exact ⟨by congr 3; omega, hB_183.isMs ⟨hwo.2.2.2.2.1, hwo.2.2.2.2.2.1⟩, S_87.trans S_183⟩)
              | (have z8 : ((m 8).toNat : Int) = m 8 := by omega
                 rw [z8] at hB_183
                 have z3 : takeF m pool tape a len E r = (m 1, takesM (updI m 8 (m 8 + (len - (E + 1) : Nat) + 1)) tape (m 1).toNat a 0 E (m 8) (m 8 + len - E - 1), pooledP pool tape (m 8).toNat (E + 1) len) := by unfold takeF; rw [if_pos zw, if_neg c_109, if_neg (by omega), if_neg (by omega)]
                 rw [z3]
                 exact ⟨by congr 3; omega, hB_183.isMs ⟨hwo.2.2.2.2.1, hwo.2.2.2.2.2.1⟩, (S_87.trans S_148).trans S_183⟩)
        · refine rj_bipush (pc := 129) dX11_take_129 (by decide +kernel) ?_
          refine r_ireturn (pc := 131) .int dX11_take_131 rfl (by first | rfl | assumption) ?_
          have z3 : takeF m pool tape a len E r = (-3, m, pool) := by unfold takeF; rw [if_pos zw, if_neg c_109, if_pos (by omega)]
          rw [z3]
          exact ⟨rfl, hB_87.isMs ⟨hwo.2.2.2.2.1, hwo.2.2.2.2.2.1⟩, S_87⟩
      · refine rj_bipush (pc := 112) dX11_take_112 (by decide +kernel) ?_
        refine r_ireturn (pc := 114) .int dX11_take_114 rfl (by first | rfl | assumption) ?_
        have z3 : takeF m pool tape a len E r = (-4, m, pool) := by unfold takeF; rw [if_pos zw, if_pos c_109]
        rw [z3]
        exact ⟨rfl, hB_87.isMs ⟨hwo.2.2.2.2.1, hwo.2.2.2.2.2.1⟩, S_87⟩
    · try simp only [b01_0, bz_0, Classical.not_not] at c_90
      refine rj_bipush (pc := 93) dX11_take_93 (by decide +kernel) ?_
      refine r_aload_n (pc := 95) dX11_take_95 rfl (by first | rfl | exact isRefV_rf _) ?_
      refine rm_getf (pc := 96) dX11_take_96 fX11_71 (by assumption) rfl ?_
      refine rj_isub (pc := 99) dX11_take_99 ?_
      refine r_ireturn (pc := 100) .int dX11_take_100 rfl (by first | rfl | assumption) ?_
      first
      | (have z0 : r.1 = false := by simpa using c_83
         have z1 : wR len r = r := by unfold wR; rw [if_neg (by rw [z0]; decide)]
         have z3 : takeF m pool tape a len E r = (-100 - r.2.2.1, m, pool) := by unfold takeF; rw [z1, if_neg (by rw [z0]; decide)]
         rw [z3]
         exact ⟨rfl, hB0.isMs ⟨hq.2.2.2.2.1, hq.2.2.2.2.2.1⟩, Same.refl⟩)
      | (have z0 : r.1 = true := by simpa using c_83
         have z1 : wR len r = wholeR len r.2 := by unfold wR; rw [if_pos z0]
         have z2 : (wholeR len r.2).1 = false := by simpa using c_90
         have z3 : takeF m pool tape a len E r = (-100 - (wholeR len r.2).2.2.1, m, pool) := by unfold takeF; rw [z1, if_neg (by rw [z2]; decide)]
         rw [z3]
         exact ⟨rfl, hB_87.isMs ⟨hwo.2.2.2.2.1, hwo.2.2.2.2.2.1⟩, S_87⟩)
/-- what take() reads: whether it goes on, and how; where the name ends -/
def takeR (tape : Nat → Int) (len f11 f12 : Int) : Bool × PS := if nameB tape len (ps0 f11 f12) ∧ hereF tape len (nameF tape len (ps0 f11 f12)).1 = 61 then stepsW tape len 1 false (advF (nameF tape len (ps0 f11 f12))) else (decide (nameB tape len (ps0 f11 f12)), nameF tape len (ps0 f11 f12))
def takeE (tape : Nat → Int) (len f11 f12 : Int) : Nat := (nameF tape len (ps0 f11 f12)).1.toNat
theorem nameF_e {tape : Nat → Int} {len f11 f12 : Int} (h : 0 ≤ len) (h11 : 0 ≤ f11 ∧ f11 ≤ 99999) : (takeE tape len f11 f12 : Int) = (nameF tape len (ps0 f11 f12)).1 ∧ takeE tape len f11 f12 ≤ 7 ∧ (takeE tape len f11 f12 : Int) ≤ len := by
  have hn := name_ok (sr := tape) (ps0_ok (f11 := f11) (f12 := f12) h h11)
  have h0 := hn.1
  have h1 := hn.2.1
  have d : (nameF tape len (ps0 f11 f12)).1 ≤ 7 := by
    unfold nameF
    split
    · exact nameL_d 7 (ps0 f11 f12)
    · show (0 : Int) ≤ 7; decide
  unfold takeE
  omega
def openN (m : Nat → Int) (a : Int) : Int := if 0 ≤ a ∧ a ≤ m 0 - 1 then -3 else -1
set_option maxHeartbeats 4000000 in
set_option maxRecDepth 100000 in
theorem m_take {G : mG} {l : Launch} {h : mH} {x s : Nat} {f4 f6 f8 f9 f10 f11 f12 f13 f14 f16 f18 : Int} {m kp was pool tape pln pap rwd rw : Nat → Int}(hB : isM h x (mFs x f4 f6 f8 f9 f10 f11 f12 f13 f14 f16 f18 s) m kp was pool tape pln pap rwd rw) (hok : mOk m) (hT : bytesOk tape) (h6 : 0 ≤ f6 ∧ f6 ≤ 120) (h11 : 0 ≤ f11 ∧ f11 ≤ 99999) (h8 : 0 ≤ m 8 ∧ m 8 + 130 ≤ 12342) {a : Int} (ha : InR a) : RUNM G l 41 mX11_take [.ref x, .int (J a)] h (fun v h' => (¬ openP m a ∧ v = some (.int (J (openN m a))) ∧ h' = h) ∨ (openP m a ∧ v = some (.int (J (takeF m pool tape a f6.toNat (takeE tape f6 f11 f12) (takeR tape f6 f11 f12)).1)) ∧ isMs h' x f4 0 f14 f16 f18 (takeF m pool tape a f6.toNat (takeE tape f6 f11 f12) (takeR tape f6 f11 f12)).2.1 kp was (takeF m pool tape a f6.toNat (takeE tape f6 f11 f12) (takeR tape f6 f11 f12)).2.2 tape pln pap rwd rw ∧ Same (mBlk x) h h')) := by
  obtain ⟨hM, k0, k1, k2, k3, k4, k5, k7⟩ := id hok
  have hB0 := hB
  have hTx : txOk 4 tape pool tape f6 := ⟨Or.inl ⟨rfl, rfl, h6.2⟩, h6.1, hT⟩
  have hq0 : psOk f6 (ps0 f11 f12) := ps0_ok h6.1 h11
  have hqn := name_ok (sr := tape) hq0
  obtain ⟨e1, e2, e3⟩ := nameF_e (tape := tape) (f12 := f12) h6.1 h11
  have ef : ((f6.toNat : Nat) : Int) = f6 := by omega
  dsimp only [mFs] at hB
  refine RUNM.of (by decide +kernel) (Nat.le_of_ble_eq_true rfl) ?_
  refine r_aload_n (pc := 0) dX11_take_0 rfl (by first | rfl | exact isRefV_rf _) ?_
  refine r_iload_n (pc := 1) dX11_take_1 rfl ?_
  refine r_callV1 (pc := 2) dX11_take_2 qX11_isScope kX11_50 vX11_isScope (by exact isM.gx (by assumption)) rfl rfl (Nat.le_of_ble_eq_true rfl) ((m_isScope 0 hB0 ha ⟨by omega, by omega⟩).deeper (by omega)) (fun v_2 h_2 q_2 => ?_)
  obtain ⟨rfl, rfl⟩ := q_2
  refine rj_if_ne (pc := 5) (tgt := 10) dX11_take_5 (by decide) (by first | assumption | exact b01_r | exact bz_r | omega | (constructor <;> omega) | exact hM _ | exact hPo _ | exact hTa _ | exact hRo _) (fun c_5 => ?_) (fun c_5 => ?_)
  · try simp only [b01_0, bz_0, Classical.not_not] at c_5
    refine r_aload_n (pc := 10) dX11_take_10 rfl (by first | rfl | exact isRefV_rf _) ?_
    refine r_iload_n (pc := 11) dX11_take_11 rfl ?_
    refine r_callV1 (pc := 12) dX11_take_12 qX11_isOpen kX11_146 vX11_isOpen (by exact isM.gx (by assumption)) rfl rfl (Nat.le_of_ble_eq_true rfl) ((m_isOpen 0 hB0 hM k0 ha).deeper (by omega)) (fun v_12 h_12 q_12 => ?_)
    obtain ⟨rfl, rfl⟩ := q_12
    refine rj_if_ne (pc := 15) (tgt := 21) dX11_take_15 (by decide) (by first | assumption | exact b01_r | exact bz_r | omega | (constructor <;> omega) | exact hM _ | exact hPo _ | exact hTa _ | exact hRo _) (fun c_15 => ?_) (fun c_15 => ?_)
    · try simp only [b01_0, bz_0, Classical.not_not] at c_15
      refine r_aload_n (pc := 21) dX11_take_21 rfl (by first | rfl | exact isRefV_rf _) ?_
      refine rm_getf (pc := 22) dX11_take_22 fX11_61 (by assumption) rfl ?_
      refine r_istore_n (pc := 25) dX11_take_25 (Nat.le_of_ble_eq_true rfl) ?_
      dsimp only [lsSt, List.set, mLs, mEnt]
      refine r_aload_n (pc := 26) dX11_take_26 rfl (by first | rfl | exact isRefV_rf _) ?_
      refine rj_iconst (pc := 27) dX11_take_27 ?_
      refine rm_putf (pc := 28) dX11_take_28 fX11_61 (by assumption) rfl rfl (Nat.le_of_ble_eq_true rfl) (fun h_28 hB_28 hS_28 => ?_)
      dsimp only [List.set, mFs] at hB_28
      refine r_aload_n (pc := 31) dX11_take_31 rfl (by first | rfl | exact isRefV_rf _) ?_
      refine r_aload_n (pc := 32) dX11_take_32 rfl (by first | rfl | exact isRefV_rf _) ?_
      refine rm_getf (pc := 33) dX11_take_33 fX11_24 (by assumption) rfl ?_
      refine rj_iconst (pc := 36) dX11_take_36 ?_
      refine r_iload_n (pc := 37) dX11_take_37 rfl ?_
      refine r_callV3 (pc := 38) dX11_take_38 qX11_begins kX11_115 vX11_begins (by exact isM.gx (by assumption)) rfl rfl (Nat.le_of_ble_eq_true rfl) ((m_begins 0 (show isM h_28 x (mFs x f4 0 f8 f9 f10 f11 f12 f13 f14 f16 f18 s) m kp was pool tape pln pap rwd rw from hB_28)).deeper (by omega)) (fun v_38 h_38 q_38 => ?_)
      obtain ⟨rfl, hB_38, S_38⟩ := q_38
      have hQ_38 : isM h_38 x (mFs x f4 0 (ps0 f11 f12).1 f6 (ps0 f11 f12).2.1 (ps0 f11 f12).2.2.1 (ps0 f11 f12).2.2.2.1 (ps0 f11 f12).2.2.2.2 f14 f16 f18 4) m kp was pool tape pln pap rwd rw := hB_38
      refine r_aload_n (pc := 41) dX11_take_41 rfl (by first | rfl | exact isRefV_rf _) ?_
      refine r_callV0 (pc := 42) dX11_take_42 qX11_isName kX11_88 vX11_isName (by exact isM.gx (by assumption)) rfl rfl (Nat.le_of_ble_eq_true rfl) ((m_isName 0 hQ_38 hTx hq0).deeper (by omega)) (fun v_42 h_42 q_42 => ?_)
      obtain ⟨rfl, hB_42, S_42⟩ := q_42
      refine r_istore_n (pc := 45) dX11_take_45 (Nat.le_of_ble_eq_true rfl) ?_
      dsimp only [lsSt, List.set, mLs, mEnt]
      refine r_aload_n (pc := 46) dX11_take_46 rfl (by first | rfl | exact isRefV_rf _) ?_
      refine rm_getf (pc := 47) dX11_take_47 fX11_65 (by assumption) rfl ?_
      refine r_istore (pc := 50) dX11_take_50 (Nat.le_of_ble_eq_true rfl) ?_
      dsimp only [lsSt, List.set, mLs, mEnt]
      refine r_iload_n (pc := 52) dX11_take_52 rfl ?_
      refine rj_if_eq (pc := 53) (tgt := 82) dX11_take_53 (by decide) (by first | assumption | exact b01_r | exact bz_r | omega | (constructor <;> omega) | exact hM _ | exact hPo _ | exact hTa _ | exact hRo _) (fun c_53 => ?_) (fun c_53 => ?_)
      · try simp only [b01_0, bz_0, Classical.not_not] at c_53
        have zr : takeR tape f6 f11 f12 = (false, (nameF tape f6 (ps0 f11 f12))) := by unfold takeR; rw [if_neg (fun g => c_53 g.1), decide_eq_false c_53]
        rw [show b01 (nameB tape f6 (ps0 f11 f12)) = bz false from (if_neg c_53).trans rfl]
        have y := L_takeT (G := G) (l := l) (len := f6.toNat) (E := takeE tape f6 f11 f12) (r := takeR tape f6 f11 f12) (a := a) (by rw [zr, ef]; exact hB_42) hok hT (by omega) (by rw [zr, ef]; exact hqn) h8 (by omega) e2
        rw [ef, e1, zr] at y
        rw [zr]
        exact (y.deeper (by omega)).mono (fun v h' q => Or.inr ⟨c_15, q.1, q.2.1, ((hS_28.trans S_38).trans S_42).trans q.2.2⟩)
      · try simp only [b01_0, bz_0, Classical.not_not] at c_53
        refine r_aload_n (pc := 56) dX11_take_56 rfl (by first | rfl | exact isRefV_rf _) ?_
        have rh := here_r hTx (nameF tape f6 (ps0 f11 f12)).1
        refine r_callV0 (pc := 57) dX11_take_57 qX11_here kX11_74 vX11_here (by exact isM.gx (by assumption)) rfl rfl (Nat.le_of_ble_eq_true rfl) ((m_here 0 hB_42 hTx hqn).deeper (by omega)) (fun v_57 h_57 q_57 => ?_)
        obtain ⟨rfl, rfl⟩ := q_57
        refine rj_bipush (pc := 60) dX11_take_60 (by decide +kernel) ?_
        refine rj_icmp_ne (pc := 62) (tgt := 82) dX11_take_62 (by decide) (by first | assumption | exact b01_r | exact bz_r | omega | (constructor <;> omega) | exact hM _ | exact hPo _ | exact hTa _ | exact hRo _) (by first | assumption | exact b01_r | exact bz_r | omega | (constructor <;> omega) | exact hM _ | exact hPo _ | exact hTa _ | exact hRo _) (fun c_62 => ?_) (fun c_62 => ?_)
        · have zr : takeR tape f6 f11 f12 = (true, (nameF tape f6 (ps0 f11 f12))) := by unfold takeR; rw [if_neg (fun g => c_62 g.2), decide_eq_true c_53]
          rw [show b01 (nameB tape f6 (ps0 f11 f12)) = bz true from (if_pos c_53).trans rfl]
          have y := L_takeT (G := G) (l := l) (len := f6.toNat) (E := takeE tape f6 f11 f12) (r := takeR tape f6 f11 f12) (a := a) (by rw [zr, ef]; exact hB_42) hok hT (by omega) (by rw [zr, ef]; exact hqn) h8 (by omega) e2
          rw [ef, e1, zr] at y
          rw [zr]
          exact (y.deeper (by omega)).mono (fun v h' q => Or.inr ⟨c_15, q.1, q.2.1, ((hS_28.trans S_38).trans S_42).trans q.2.2⟩)
        · refine r_aload_n (pc := 65) dX11_take_65 rfl (by first | rfl | exact isRefV_rf _) ?_
          refine r_dup (pc := 66) dX11_take_66 (by first | rfl | (cases ‹Option Nat› <;> rfl)) ?_
          refine rm_getf (pc := 67) dX11_take_67 fX11_65 (by assumption) rfl ?_
          refine rj_iconst (pc := 70) dX11_take_70 ?_
          refine rj_iadd (pc := 71) dX11_take_71 ?_
          refine rm_putf (pc := 72) dX11_take_72 fX11_65 (by assumption) rfl rfl (Nat.le_of_ble_eq_true rfl) (fun h_72 hB_72 hS_72 => ?_)
          dsimp only [List.set, mFs] at hB_72
          refine r_aload_n (pc := 75) dX11_take_75 rfl (by first | rfl | exact isRefV_rf _) ?_
          refine rj_iconst (pc := 76) dX11_take_76 ?_
          refine rj_iconst (pc := 77) dX11_take_77 ?_
          refine r_callV2 (pc := 78) dX11_take_78 qX11_isStepsRead kX11_92 vX11_isStepsRead (by exact isM.gx (by assumption)) rfl rfl (Nat.le_of_ble_eq_true rfl) (by have y := m_stepsW (G := G) (l := l) (w := 1) (it := false) (q := advF (nameF tape f6 (ps0 f11 f12))) (show isM h_72 x (mFs x f4 0 (advF (nameF tape f6 (ps0 f11 f12))).1 f6 (advF (nameF tape f6 (ps0 f11 f12))).2.1 (advF (nameF tape f6 (ps0 f11 f12))).2.2.1 (advF (nameF tape f6 (ps0 f11 f12))).2.2.2.1 (advF (nameF tape f6 (ps0 f11 f12))).2.2.2.2 f14 f16 f18 4) m kp was pool tape pln pap rwd rw from hB_72) hTx (adv_ok hqn (here_lt (sr := tape) (by omega))) (by decide) (by decide); rw [show bz false = 0 from rfl] at y; exact y.deeper (by omega)) (fun v_78 h_78 q_78 => ?_)
          obtain ⟨rfl, hB_78, S_78⟩ := q_78
          refine r_istore_n (pc := 81) dX11_take_81 (Nat.le_of_ble_eq_true rfl) ?_
          dsimp only [lsSt, List.set, mLs, mEnt]
          have zr : takeR tape f6 f11 f12 = stepsW tape f6 1 false (advF (nameF tape f6 (ps0 f11 f12))) := by unfold takeR; rw [if_pos ⟨c_53, c_62⟩]
          have y := L_takeT (G := G) (l := l) (len := f6.toNat) (E := takeE tape f6 f11 f12) (r := takeR tape f6 f11 f12) (a := a) (by rw [zr, ef]; exact hB_78) hok hT (by omega) (by rw [zr, ef]; exact (stepsW_p _ (adv_ok hqn (here_lt (sr := tape) (by omega)))).1) h8 (by omega) e2
          rw [ef, e1, zr] at y
          rw [zr]
          exact (y.deeper (by omega)).mono (fun v h' q => Or.inr ⟨c_15, q.1, q.2.1, ((((hS_28.trans S_38).trans S_42).trans hS_72).trans S_78).trans q.2.2⟩)
    · try simp only [b01_0, bz_0, Classical.not_not] at c_15
      refine rj_bipush (pc := 18) dX11_take_18 (by decide +kernel) ?_
      refine r_ireturn (pc := 20) .int dX11_take_20 rfl (by first | rfl | assumption) ?_
      exact Or.inl ⟨c_15, by rw [show openN m a = -3 from if_pos c_5], rfl⟩
  · try simp only [b01_0, bz_0, Classical.not_not] at c_5
    refine rj_iconst (pc := 8) dX11_take_8 ?_
    refine r_ireturn (pc := 9) .int dX11_take_9 rfl (by first | rfl | assumption) ?_
    exact Or.inl ⟨fun g => c_5 ⟨g.1, g.2.1⟩, by rw [show openN m a = -1 from if_neg c_5], rfl⟩
def newTaskM (m : Nat → Int) (a b : Int) (len : Nat) : Nat → Int :=
  updI (updI (updI (updI (updI (updI (updI (opensM (updI (zrF (updI m 3 (m 3 + 1)) (1608 + 72 * (m 3).toNat) 72) 8 (m 8 + (len : Nat) + 1)) (m 0).toNat a (m 3)) (1608 + 72 * (m 3).toNat) (m 0)) (1609 + 72 * (m 3).toNat) b) (1611 + 72 * (m 3).toNat) (m 8)) (1616 + 72 * (m 3).toNat) (m 8)) (1617 + 72 * (m 3).toNat) (m 8 + len)) (1619 + 72 * (m 3).toNat) 1) (1620 + 72 * (m 3).toNat) (m 0)
def taskR (tape : Nat → Int) (len f11 f12 : Int) : Bool × PS := wR len (stepsW tape len 0 true (ps0 f11 f12))
def taskF (m pool tape : Nat → Int) (a b : Int) (len : Nat) (f11 f12 : Int) : Int × (Nat → Int) × (Nat → Int) :=
  if (taskR tape len f11 f12).1 = true then (m 3, newTaskM m a b len, pooledP pool tape (m 8).toNat 0 len) else (-100 - (taskR tape len f11 f12).2.2.1, m, pool)
def taskN (m : Nat → Int) (a b : Int) : Int := if 0 ≤ a ∧ a ≤ m 0 - 1 then (if -99 ≤ b ∧ b ≤ 99 then (if openP m a then -4 else -3) else -2) else -1
abbrev taskDo (m : Nat → Int) (a b : Int) : Prop := (0 ≤ a ∧ a ≤ m 0 - 1) ∧ (-99 ≤ b ∧ b ≤ 99) ∧ openP m a ∧ ¬ m 3 = 10 ∧ ¬ m 0 = 60
set_option maxHeartbeats 4000000 in
set_option maxRecDepth 100000 in
theorem L_zero {G : mG} {l : Launch} {x s : Nat} {f4 f6 f8 f9 f10 f11 f12 f13 f14 f16 f18 : Int} {kp was pool tape pln pap rwd rw : Nat → Int} {T : Nat} (hT9 : T ≤ 9) {a b : Int} {mm : Nat → Int} {Q : Option Value → mH → Prop} {f6' : Int} {hz : mH} (K : ∀ h1, Same (mBlk x) hz h1 → isM h1 x (mFs x f4 f6 f8 f9 f10 f11 f12 f13 f14 f16 f18 s) (zrF mm (1608 + 72 * T) 72) kp was pool tape pln pap rwd rw → RUN G l 40 mX11_task 152 [some (.ref x), some (.int (J a)), some (.int (J b)), some (.int (J f6')), some (.int (J (T : Int))), some (.int (J (72 : Int)))] [] h1 Q) : ∀ (n k : Nat) (h : mH), k + n = 72 → Same (mBlk x) hz h → isM h x (mFs x f4 f6 f8 f9 f10 f11 f12 f13 f14 f16 f18 s) (zrF mm (1608 + 72 * T) k) kp was pool tape pln pap rwd rw → RUN G l 40 mX11_task 125 [some (.ref x), some (.int (J a)), some (.int (J b)), some (.int (J f6')), some (.int (J (T : Int))), some (.int (J (k : Int)))] [] h Q := by
  intro n
  induction n with
  | zero =>
    intro k h hk hS hB
    have hB0 := hB
    obtain rfl : k = 72 := by omega
    dsimp only [mFs] at hB
    refine r_iload (pc := 125) dX11_task_125 rfl ?_
    refine rj_bipush (pc := 127) dX11_task_127 (by decide +kernel) ?_
    refine rj_icmp_ge (pc := 129) (tgt := 152) dX11_task_129 (by decide) (by first | assumption | exact b01_r | exact bz_r | omega | (constructor <;> omega) | exact hM _ | exact hPo _ | exact hTa _ | exact hRo _) (by first | assumption | exact b01_r | exact bz_r | omega | (constructor <;> omega) | exact hM _ | exact hPo _ | exact hTa _ | exact hRo _) (fun c_129 => ?_) (fun c_129 => ?_)
    · exact K _ hS hB0
    · all_goals (first | exact absurd trivial ‹¬ True› | (exfalso; omega))
  | succ n ih =>
    intro k h hk hS hB
    have hB0 := hB
    dsimp only [mFs] at hB
    refine r_iload (pc := 125) dX11_task_125 rfl ?_
    refine rj_bipush (pc := 127) dX11_task_127 (by decide +kernel) ?_
    refine rj_icmp_ge (pc := 129) (tgt := 152) dX11_task_129 (by decide) (by first | assumption | exact b01_r | exact bz_r | omega | (constructor <;> omega) | exact hM _ | exact hPo _ | exact hTa _ | exact hRo _) (by first | assumption | exact b01_r | exact bz_r | omega | (constructor <;> omega) | exact hM _ | exact hPo _ | exact hTa _ | exact hRo _) (fun c_129 => ?_) (fun c_129 => ?_)
    · exfalso; omega
    · refine r_aload_n (pc := 132) dX11_task_132 rfl (by first | rfl | exact isRefV_rf _) ?_
      refine rm_getf (pc := 133) dX11_task_133 fX11_11 (by assumption) rfl ?_
      refine r_iload (pc := 136) dX11_task_136 rfl ?_
      refine r_iload (pc := 138) dX11_task_138 rfl ?_
      refine rj_iconst (pc := 140) dX11_task_140 ?_
      refine r_callS3 (pc := 141) dX11_task_141 qX11_ofTask kX11_58 sX11_ofTask (Nat.le_of_ble_eq_true rfl) (m_ofTask _) (fun v_141 h_141 q_141 => ?_)
      obtain ⟨rfl, rfl⟩ := q_141
      refine rj_iconst (pc := 144) dX11_task_144 ?_
      first | refine rm_iast0 (pc := 145) (j := 1608 + 72 * T + k) dX11_task_145 (by assumption) (by first | assumption | exact b01_r | exact bz_r | omega | (constructor <;> omega) | exact hM _ | exact hPo _ | exact hTa _ | exact hRo _) (by first | assumption | exact b01_r | exact bz_r | omega | (constructor <;> omega) | exact hM _ | exact hPo _ | exact hTa _ | exact hRo _) (by first | assumption | exact b01_r | exact bz_r | omega | (constructor <;> omega) | exact hM _ | exact hPo _ | exact hTa _ | exact hRo _) (by omega) (fun h_145 hB_145 hS_145 => ?_)
      rw [zrF_s] at hB_145
      refine rj_iinc (pc := 146) dX11_task_146 (Nat.le_of_ble_eq_true rfl) rfl ?_
      dsimp only [lsSt, List.set, mLs, mEnt]
      refine r_goto (pc := 149) (tgt := 125) dX11_task_149 (by decide) ?_
      have y := ih (k + 1) _ (by omega) (hS.trans hS_145) hB_145
      rw [show ((k + 1 : Nat) : Int) = (k : Int) + 1 by omega] at y
      exact y
set_option maxHeartbeats 4000000 in
set_option maxRecDepth 100000 in
theorem L_taskT {G : mG} {l : Launch} {x s : Nat} {f4 f6 f8 f9 f10 f11 f12 f13 f14 f16 f18 : Int} {m kp was pool tape pln pap rwd rw : Nat → Int} {h : mH} {len : Nat} (hB : isM h x (mFs x f4 f6 f8 f9 f10 f11 f12 f13 f14 f16 f18 s) (zrF (updI m 3 (m 3 + 1)) (1608 + 72 * (m 3).toNat) 72) kp was pool tape pln pap rwd rw) (hTa : ∀ q, InR (tape q)) (hl : len ≤ 120) (h8 : 0 ≤ m 8 ∧ m 8 + 130 ≤ 12342) (h0 : 0 ≤ m 0 ∧ m 0 ≤ 59) (h3 : 0 ≤ m 3 ∧ m 3 ≤ 9) {a b : Int} {Q : Option Value → mH → Prop} (K : ∀ h1, isM h1 x (mFs x f4 f6 f8 f9 f10 f11 f12 f13 f14 f16 f18 s) (newTaskM m a b len) kp was (pooledP pool tape (m 8).toNat 0 len) tape pln pap rwd rw → Same (mBlk x) h h1 → Q (some (.int (J (m 3)))) h1) : RUN G l 40 mX11_task 152 [some (.ref x), some (.int (J a)), some (.int (J b)), some (.int (J (len : Int))), some (.int (J (m 3))), some (.int (J 72))] [] h Q := by
  have hB0 := hB
  have zz8 : (zrF (updI m 3 (m 3 + 1)) (1608 + 72 * (m 3).toNat) 72) 8 = m 8 := by unfold zrF; rw [if_neg (by omega), updI_n (by decide)]
  have zz0 : (updI (zrF (updI m 3 (m 3 + 1)) (1608 + 72 * (m 3).toNat) 72) 8 (m 8 + (len : Nat) + 1)) 0 = m 0 := by rw [updI_n (by decide)]; unfold zrF; rw [if_neg (by omega), updI_n (by decide)]
  have zo : (updI (updI (updI (updI (updI (updI (opensM (updI (zrF (updI m 3 (m 3 + 1)) (1608 + 72 * (m 3).toNat) 72) 8 (m 8 + (len : Nat) + 1)) (m 0).toNat a (m 3)) (1608 + 72 * (m 3).toNat) (m 0)) (1609 + 72 * (m 3).toNat) b) (1611 + 72 * (m 3).toNat) (m 8)) (1616 + 72 * (m 3).toNat) (m 8)) (1617 + 72 * (m 3).toNat) (m 8 + len)) (1619 + 72 * (m 3).toNat) 1) (1608 + 72 * (m 3).toNat) = m 0 := by rw [updI_n (by omega), updI_n (by omega), updI_n (by omega), updI_n (by omega), updI_n (by omega), updI_s]
  dsimp only [mFs] at hB
  refine r_aload_n (pc := 152) dX11_task_152 rfl (by first | rfl | exact isRefV_rf _) ?_
  refine rj_iconst (pc := 153) dX11_task_153 ?_
  refine r_iload_n (pc := 154) dX11_task_154 rfl ?_
  refine r_callV2 (pc := 155) dX11_task_155 qX11_pooled kX11_220 vX11_pooled (by exact isM.gx (by assumption)) rfl rfl (Nat.le_of_ble_eq_true rfl) (by have y := m_pooled (G := G) (l := l) 0 hB0 (a := 0) (b := len) (p := (m 8).toNat) hTa (by omega) (by omega) (by omega) (by rw [zz8]; omega); exact y.deeper (by omega)) (fun v_155 h_155 q_155 => ?_)
  obtain ⟨rfl, hB_155, S_155⟩ := q_155
  have hC_155 : isM h_155 x (mFs x f4 f6 f8 f9 f10 f11 f12 f13 f14 f16 f18 s) (updI (zrF (updI m 3 (m 3 + 1)) (1608 + 72 * (m 3).toNat) 72) 8 (m 8 + (len : Nat) + 1)) kp was (pooledP pool tape (m 8).toNat 0 len) tape pln pap rwd rw := by rw [show m 8 + (len : Int) + 1 = ((m 8).toNat : Int) + ((len - 0 : Nat) : Int) + 1 by omega]; exact hB_155
  refine r_istore (pc := 158) dX11_task_158 (Nat.le_of_ble_eq_true rfl) ?_
  dsimp only [lsSt, List.set, mLs, mEnt]
  rw [show (((m 8).toNat : Nat) : Int) = m 8 by omega]
  refine r_aload_n (pc := 160) dX11_task_160 rfl (by first | rfl | exact isRefV_rf _) ?_
  refine rm_getf (pc := 161) dX11_task_161 fX11_11 (by assumption) rfl ?_
  refine r_iload (pc := 164) dX11_task_164 rfl ?_
  refine rj_iconst (pc := 166) dX11_task_166 ?_
  refine rj_iconst (pc := 167) dX11_task_167 ?_
  refine r_callS3 (pc := 168) dX11_task_168 qX11_ofTask kX11_58 sX11_ofTask (Nat.le_of_ble_eq_true rfl) (m_ofTask _) (fun v_168 h_168 q_168 => ?_)
  obtain ⟨rfl, rfl⟩ := q_168
  refine r_aload_n (pc := 171) dX11_task_171 rfl (by first | rfl | exact isRefV_rf _) ?_
  refine r_iload_n (pc := 172) dX11_task_172 rfl ?_
  refine r_iload (pc := 173) dX11_task_173 rfl ?_
  refine r_callV2 (pc := 175) dX11_task_175 qX11_opens kX11_186 vX11_opens (by exact isM.gx (by assumption)) rfl rfl (Nat.le_of_ble_eq_true rfl) (by have y := m_opens (G := G) (l := l) 0 hC_155 (C := (m 0).toNat) (by rw [zz0]; omega) (by omega) (p := a) (t := m 3); exact y.deeper (by omega)) (fun v_175 h_175 q_175 => ?_)
  obtain ⟨rfl, hB_175, S_175⟩ := q_175
  rw [show (((m 0).toNat : Nat) : Int) = m 0 by omega]
  first | refine rm_iast0 (pc := 178) (j := 1608 + 72 * (m 3).toNat) dX11_task_178 (by assumption) (by first | assumption | exact b01_r | exact bz_r | omega | (constructor <;> omega) | exact hM _ | exact hPo _ | exact hTa _ | exact hRo _) (by first | assumption | exact b01_r | exact bz_r | omega | (constructor <;> omega) | exact hM _ | exact hPo _ | exact hTa _ | exact hRo _) (by first | assumption | exact b01_r | exact bz_r | omega | (constructor <;> omega) | exact hM _ | exact hPo _ | exact hTa _ | exact hRo _) (by omega) (fun h_178 hB_178 hS_178 => ?_)
  refine r_aload_n (pc := 179) dX11_task_179 rfl (by first | rfl | exact isRefV_rf _) ?_
  refine rm_getf (pc := 180) dX11_task_180 fX11_11 (by assumption) rfl ?_
  refine r_iload (pc := 183) dX11_task_183 rfl ?_
  refine rj_iconst (pc := 185) dX11_task_185 ?_
  refine rj_iconst (pc := 186) dX11_task_186 ?_
  refine r_callS3 (pc := 187) dX11_task_187 qX11_ofTask kX11_58 sX11_ofTask (Nat.le_of_ble_eq_true rfl) (m_ofTask _) (fun v_187 h_187 q_187 => ?_)
  obtain ⟨rfl, rfl⟩ := q_187
  refine r_iload_n (pc := 190) dX11_task_190 rfl ?_
  first | refine rm_iast0 (pc := 191) (j := 1609 + 72 * (m 3).toNat) dX11_task_191 (by assumption) (by first | assumption | exact b01_r | exact bz_r | omega | (constructor <;> omega) | exact hM _ | exact hPo _ | exact hTa _ | exact hRo _) (by first | assumption | exact b01_r | exact bz_r | omega | (constructor <;> omega) | exact hM _ | exact hPo _ | exact hTa _ | exact hRo _) (by first | assumption | exact b01_r | exact bz_r | omega | (constructor <;> omega) | exact hM _ | exact hPo _ | exact hTa _ | exact hRo _) (by omega) (fun h_191 hB_191 hS_191 => ?_)
  refine r_aload_n (pc := 192) dX11_task_192 rfl (by first | rfl | exact isRefV_rf _) ?_
  refine rm_getf (pc := 193) dX11_task_193 fX11_11 (by assumption) rfl ?_
  refine r_iload (pc := 196) dX11_task_196 rfl ?_
  refine rj_iconst (pc := 198) dX11_task_198 ?_
  refine rj_iconst (pc := 199) dX11_task_199 ?_
  refine r_callS3 (pc := 200) dX11_task_200 qX11_ofTask kX11_58 sX11_ofTask (Nat.le_of_ble_eq_true rfl) (m_ofTask _) (fun v_200 h_200 q_200 => ?_)
  obtain ⟨rfl, rfl⟩ := q_200
  refine r_iload (pc := 203) dX11_task_203 rfl ?_
  first | refine rm_iast0 (pc := 205) (j := 1611 + 72 * (m 3).toNat) dX11_task_205 (by assumption) (by first | assumption | exact b01_r | exact bz_r | omega | (constructor <;> omega) | exact hM _ | exact hPo _ | exact hTa _ | exact hRo _) (by first | assumption | exact b01_r | exact bz_r | omega | (constructor <;> omega) | exact hM _ | exact hPo _ | exact hTa _ | exact hRo _) (by first | assumption | exact b01_r | exact bz_r | omega | (constructor <;> omega) | exact hM _ | exact hPo _ | exact hTa _ | exact hRo _) (by omega) (fun h_205 hB_205 hS_205 => ?_)
  refine r_aload_n (pc := 206) dX11_task_206 rfl (by first | rfl | exact isRefV_rf _) ?_
  refine rm_getf (pc := 207) dX11_task_207 fX11_11 (by assumption) rfl ?_
  refine r_iload (pc := 210) dX11_task_210 rfl ?_
  refine rj_bipush (pc := 212) dX11_task_212 (by decide +kernel) ?_
  refine rj_iconst (pc := 214) dX11_task_214 ?_
  refine r_callS3 (pc := 215) dX11_task_215 qX11_ofTask kX11_58 sX11_ofTask (Nat.le_of_ble_eq_true rfl) (m_ofTask _) (fun v_215 h_215 q_215 => ?_)
  obtain ⟨rfl, rfl⟩ := q_215
  refine r_iload (pc := 218) dX11_task_218 rfl ?_
  first | refine rm_iast0 (pc := 220) (j := 1616 + 72 * (m 3).toNat) dX11_task_220 (by assumption) (by first | assumption | exact b01_r | exact bz_r | omega | (constructor <;> omega) | exact hM _ | exact hPo _ | exact hTa _ | exact hRo _) (by first | assumption | exact b01_r | exact bz_r | omega | (constructor <;> omega) | exact hM _ | exact hPo _ | exact hTa _ | exact hRo _) (by first | assumption | exact b01_r | exact bz_r | omega | (constructor <;> omega) | exact hM _ | exact hPo _ | exact hTa _ | exact hRo _) (by omega) (fun h_220 hB_220 hS_220 => ?_)
  refine r_aload_n (pc := 221) dX11_task_221 rfl (by first | rfl | exact isRefV_rf _) ?_
  refine rm_getf (pc := 222) dX11_task_222 fX11_11 (by assumption) rfl ?_
  refine r_iload (pc := 225) dX11_task_225 rfl ?_
  refine rj_bipush (pc := 227) dX11_task_227 (by decide +kernel) ?_
  refine rj_iconst (pc := 229) dX11_task_229 ?_
  refine r_callS3 (pc := 230) dX11_task_230 qX11_ofTask kX11_58 sX11_ofTask (Nat.le_of_ble_eq_true rfl) (m_ofTask _) (fun v_230 h_230 q_230 => ?_)
  obtain ⟨rfl, rfl⟩ := q_230
  refine r_iload (pc := 233) dX11_task_233 rfl ?_
  refine r_iload_n (pc := 235) dX11_task_235 rfl ?_
  refine rj_iadd (pc := 236) dX11_task_236 ?_
  first | refine rm_iast0 (pc := 237) (j := 1617 + 72 * (m 3).toNat) dX11_task_237 (by assumption) (by first | assumption | exact b01_r | exact bz_r | omega | (constructor <;> omega) | exact hM _ | exact hPo _ | exact hTa _ | exact hRo _) (by first | assumption | exact b01_r | exact bz_r | omega | (constructor <;> omega) | exact hM _ | exact hPo _ | exact hTa _ | exact hRo _) (by first | assumption | exact b01_r | exact bz_r | omega | (constructor <;> omega) | exact hM _ | exact hPo _ | exact hTa _ | exact hRo _) (by omega) (fun h_237 hB_237 hS_237 => ?_)
  refine r_aload_n (pc := 238) dX11_task_238 rfl (by first | rfl | exact isRefV_rf _) ?_
  refine rm_getf (pc := 239) dX11_task_239 fX11_11 (by assumption) rfl ?_
  refine r_iload (pc := 242) dX11_task_242 rfl ?_
  refine rj_bipush (pc := 244) dX11_task_244 (by decide +kernel) ?_
  refine rj_iconst (pc := 246) dX11_task_246 ?_
  refine r_callS3 (pc := 247) dX11_task_247 qX11_ofTask kX11_58 sX11_ofTask (Nat.le_of_ble_eq_true rfl) (m_ofTask _) (fun v_247 h_247 q_247 => ?_)
  obtain ⟨rfl, rfl⟩ := q_247
  refine rj_iconst (pc := 250) dX11_task_250 ?_
  first | refine rm_iast0 (pc := 251) (j := 1619 + 72 * (m 3).toNat) dX11_task_251 (by assumption) (by first | assumption | exact b01_r | exact bz_r | omega | (constructor <;> omega) | exact hM _ | exact hPo _ | exact hTa _ | exact hRo _) (by first | assumption | exact b01_r | exact bz_r | omega | (constructor <;> omega) | exact hM _ | exact hPo _ | exact hTa _ | exact hRo _) (by first | assumption | exact b01_r | exact bz_r | omega | (constructor <;> omega) | exact hM _ | exact hPo _ | exact hTa _ | exact hRo _) (by omega) (fun h_251 hB_251 hS_251 => ?_)
  refine r_aload_n (pc := 252) dX11_task_252 rfl (by first | rfl | exact isRefV_rf _) ?_
  refine rm_getf (pc := 253) dX11_task_253 fX11_11 (by assumption) rfl ?_
  refine r_iload (pc := 256) dX11_task_256 rfl ?_
  refine rj_bipush (pc := 258) dX11_task_258 (by decide +kernel) ?_
  refine rj_iconst (pc := 260) dX11_task_260 ?_
  refine r_callS3 (pc := 261) dX11_task_261 qX11_ofTask kX11_58 sX11_ofTask (Nat.le_of_ble_eq_true rfl) (m_ofTask _) (fun v_261 h_261 q_261 => ?_)
  obtain ⟨rfl, rfl⟩ := q_261
  refine r_aload_n (pc := 264) dX11_task_264 rfl (by first | rfl | exact isRefV_rf _) ?_
  refine rm_getf (pc := 265) dX11_task_265 fX11_11 (by assumption) rfl ?_
  refine r_iload (pc := 268) dX11_task_268 rfl ?_
  refine rj_iconst (pc := 270) dX11_task_270 ?_
  refine rj_iconst (pc := 271) dX11_task_271 ?_
  refine r_callS3 (pc := 272) dX11_task_272 qX11_ofTask kX11_58 sX11_ofTask (Nat.le_of_ble_eq_true rfl) (m_ofTask _) (fun v_272 h_272 q_272 => ?_)
  obtain ⟨rfl, rfl⟩ := q_272
  refine rj_iald (pc := 275) (j := 1608 + 72 * (m 3).toNat) dX11_task_275 (by first | exact isM.g0 (by assumption) | exact isM.g3 (by assumption) | exact isM.g4 (by assumption) | exact isM.g8 (by assumption) | exact isM.g7 (by assumption) | exact isM.g6 (by assumption) | exact isM.g5 (by assumption) | exact isM.g1 (by assumption) | exact isM.g2 (by assumption)) (by first | assumption | exact b01_r | exact bz_r | omega | (constructor <;> omega) | exact hM _ | exact hPo _ | exact hTa _ | exact hRo _) (by first | assumption | exact b01_r | exact bz_r | omega | (constructor <;> omega) | exact hM _ | exact hPo _ | exact hTa _ | exact hRo _) (by first | assumption | exact b01_r | exact bz_r | omega | (constructor <;> omega) | exact hM _ | exact hPo _ | exact hTa _ | exact hRo _) (by omega) ?_
  rw [zo]
  first | refine rm_iast0 (pc := 276) (j := 1620 + 72 * (m 3).toNat) dX11_task_276 (by assumption) (by first | assumption | exact b01_r | exact bz_r | omega | (constructor <;> omega) | exact hM _ | exact hPo _ | exact hTa _ | exact hRo _) (by first | assumption | exact b01_r | exact bz_r | omega | (constructor <;> omega) | exact hM _ | exact hPo _ | exact hTa _ | exact hRo _) (by first | assumption | exact b01_r | exact bz_r | omega | (constructor <;> omega) | exact hM _ | exact hPo _ | exact hTa _ | exact hRo _) (by omega) (fun h_276 hB_276 hS_276 => ?_)
  refine r_iload (pc := 277) dX11_task_277 rfl ?_
  refine r_ireturn (pc := 279) .int dX11_task_279 rfl (by first | rfl | assumption) ?_
  exact K _ hB_276 ((((((((S_155.trans S_175).trans hS_178).trans hS_191).trans hS_205).trans hS_220).trans hS_237).trans hS_251).trans hS_276)
set_option maxHeartbeats 4000000 in
set_option maxRecDepth 100000 in
theorem m_task {G : mG} {l : Launch} {h : mH} {x s : Nat} {f4 f6 f8 f9 f10 f11 f12 f13 f14 f16 f18 : Int} {m kp was pool tape pln pap rwd rw : Nat → Int}(hB : isM h x (mFs x f4 f6 f8 f9 f10 f11 f12 f13 f14 f16 f18 s) m kp was pool tape pln pap rwd rw) (hok : mOk m) (hT : bytesOk tape) (h6 : 0 ≤ f6 ∧ f6 ≤ 120) (h11 : 0 ≤ f11 ∧ f11 ≤ 99999) (h8 : 0 ≤ m 8 ∧ m 8 + 130 ≤ 12342) {a b : Int} (ha : InR a) (hb : InR b) : RUNM G l 41 mX11_task [.ref x, .int (J a), .int (J b)] h (fun v h' => (¬ taskDo m a b ∧ v = some (.int (J (taskN m a b))) ∧ h' = h) ∨ (taskDo m a b ∧ v = some (.int (J (taskF m pool tape a b f6.toNat f11 f12).1)) ∧ isMs h' x f4 0 f14 f16 f18 (taskF m pool tape a b f6.toNat f11 f12).2.1 kp was (taskF m pool tape a b f6.toNat f11 f12).2.2 tape pln pap rwd rw ∧ Same (mBlk x) h h')) := by
  obtain ⟨hM, k0, k1, k2, k3, k4, k5, k7⟩ := id hok
  have hB0 := hB
  have hTx : txOk 4 tape pool tape f6 := ⟨Or.inl ⟨rfl, rfl, h6.2⟩, h6.1, hT⟩
  have hq0 : psOk f6 (ps0 f11 f12) := ps0_ok h6.1 h11
  have hTa : ∀ q, InR (tape q) := fun q => by have := hT q; exact ⟨by omega, by omega⟩
  have ef : ((f6.toNat : Nat) : Int) = f6 := by omega
  have r0 := hM 0
  have r3 := hM 3
  have hqs := (stepsW_p (sr := tape) (w := 0) (it := true) _ hq0).1
  have hwo := wholeR_ok hqs
  have hw : taskR tape f6 f11 f12 = wR f6 (stepsW tape f6 0 true (ps0 f11 f12)) := rfl
  dsimp only [mFs] at hB
  refine RUNM.of (by decide +kernel) (Nat.le_of_ble_eq_true rfl) ?_
  refine r_aload_n (pc := 0) dX11_task_0 rfl (by first | rfl | exact isRefV_rf _) ?_
  refine r_iload_n (pc := 1) dX11_task_1 rfl ?_
  refine r_callV1 (pc := 2) dX11_task_2 qX11_isScope kX11_50 vX11_isScope (by exact isM.gx (by assumption)) rfl rfl (Nat.le_of_ble_eq_true rfl) ((m_isScope 0 hB0 ha ⟨by omega, by omega⟩).deeper (by omega)) (fun v_2 h_2 q_2 => ?_)
  obtain ⟨rfl, rfl⟩ := q_2
  refine rj_if_ne (pc := 5) (tgt := 10) dX11_task_5 (by decide) (by first | assumption | exact b01_r | exact bz_r | omega | (constructor <;> omega) | exact hM _ | exact hPo _ | exact hTa _ | exact hRo _) (fun c_5 => ?_) (fun c_5 => ?_)
  · try simp only [b01_0, bz_0, Classical.not_not] at c_5
    refine r_iload_n (pc := 10) dX11_task_10 rfl ?_
    refine rj_bipush (pc := 11) dX11_task_11 (by decide +kernel) ?_
    refine rj_bipush (pc := 13) dX11_task_13 (by decide +kernel) ?_
    refine r_callS3 (pc := 15) dX11_task_15 qX11_isIn kX11_46 sX11_isIn (Nat.le_of_ble_eq_true rfl) ((m_isIn 0 hb (by decide) (by decide)).deeper (by omega)) (fun v_15 h_15 q_15 => ?_)
    obtain ⟨rfl, rfl⟩ := q_15
    refine rj_if_ne (pc := 18) (tgt := 24) dX11_task_18 (by decide) (by first | assumption | exact b01_r | exact bz_r | omega | (constructor <;> omega) | exact hM _ | exact hPo _ | exact hTa _ | exact hRo _) (fun c_18 => ?_) (fun c_18 => ?_)
    · try simp only [b01_0, bz_0, Classical.not_not] at c_18
      refine r_aload_n (pc := 24) dX11_task_24 rfl (by first | rfl | exact isRefV_rf _) ?_
      refine r_iload_n (pc := 25) dX11_task_25 rfl ?_
      refine r_callV1 (pc := 26) dX11_task_26 qX11_isOpen kX11_146 vX11_isOpen (by exact isM.gx (by assumption)) rfl rfl (Nat.le_of_ble_eq_true rfl) ((m_isOpen 0 hB0 hM k0 ha).deeper (by omega)) (fun v_26 h_26 q_26 => ?_)
      obtain ⟨rfl, rfl⟩ := q_26
      refine rj_if_ne (pc := 29) (tgt := 35) dX11_task_29 (by decide) (by first | assumption | exact b01_r | exact bz_r | omega | (constructor <;> omega) | exact hM _ | exact hPo _ | exact hTa _ | exact hRo _) (fun c_29 => ?_) (fun c_29 => ?_)
      · try simp only [b01_0, bz_0, Classical.not_not] at c_29
        refine r_aload_n (pc := 35) dX11_task_35 rfl (by first | rfl | exact isRefV_rf _) ?_
        refine rm_getf (pc := 36) dX11_task_36 fX11_11 (by assumption) rfl ?_
        refine rj_iconst (pc := 39) dX11_task_39 ?_
        refine rj_iald (pc := 40) (j := 3) dX11_task_40 (by first | exact isM.g0 (by assumption) | exact isM.g3 (by assumption) | exact isM.g4 (by assumption) | exact isM.g8 (by assumption) | exact isM.g7 (by assumption) | exact isM.g6 (by assumption) | exact isM.g5 (by assumption) | exact isM.g1 (by assumption) | exact isM.g2 (by assumption)) (by first | assumption | exact b01_r | exact bz_r | omega | (constructor <;> omega) | exact hM _ | exact hPo _ | exact hTa _ | exact hRo _) (by first | assumption | exact b01_r | exact bz_r | omega | (constructor <;> omega) | exact hM _ | exact hPo _ | exact hTa _ | exact hRo _) (by first | assumption | exact b01_r | exact bz_r | omega | (constructor <;> omega) | exact hM _ | exact hPo _ | exact hTa _ | exact hRo _) (by omega) ?_
        refine rj_bipush (pc := 41) dX11_task_41 (by decide +kernel) ?_
        refine rj_icmp_eq (pc := 43) (tgt := 57) dX11_task_43 (by decide) (by first | assumption | exact b01_r | exact bz_r | omega | (constructor <;> omega) | exact hM _ | exact hPo _ | exact hTa _ | exact hRo _) (by first | assumption | exact b01_r | exact bz_r | omega | (constructor <;> omega) | exact hM _ | exact hPo _ | exact hTa _ | exact hRo _) (fun c_43 => ?_) (fun c_43 => ?_)
        · refine rj_bipush (pc := 57) dX11_task_57 (by decide +kernel) ?_
          refine r_ireturn (pc := 59) .int dX11_task_59 rfl (by first | rfl | assumption) ?_
          exact Or.inl ⟨fun g => by first | exact g.2.2.2.1 c_43 | exact g.2.2.2.2 c_54, by rw [show taskN m a b = -4 by unfold taskN; rw [if_pos c_5, if_pos c_18, if_pos c_29]], rfl⟩
        · refine r_aload_n (pc := 46) dX11_task_46 rfl (by first | rfl | exact isRefV_rf _) ?_
          refine rm_getf (pc := 47) dX11_task_47 fX11_11 (by assumption) rfl ?_
          refine rj_iconst (pc := 50) dX11_task_50 ?_
          refine rj_iald (pc := 51) (j := 0) dX11_task_51 (by first | exact isM.g0 (by assumption) | exact isM.g3 (by assumption) | exact isM.g4 (by assumption) | exact isM.g8 (by assumption) | exact isM.g7 (by assumption) | exact isM.g6 (by assumption) | exact isM.g5 (by assumption) | exact isM.g1 (by assumption) | exact isM.g2 (by assumption)) (by first | assumption | exact b01_r | exact bz_r | omega | (constructor <;> omega) | exact hM _ | exact hPo _ | exact hTa _ | exact hRo _) (by first | assumption | exact b01_r | exact bz_r | omega | (constructor <;> omega) | exact hM _ | exact hPo _ | exact hTa _ | exact hRo _) (by first | assumption | exact b01_r | exact bz_r | omega | (constructor <;> omega) | exact hM _ | exact hPo _ | exact hTa _ | exact hRo _) (by omega) ?_
          refine rj_bipush (pc := 52) dX11_task_52 (by decide +kernel) ?_
          refine rj_icmp_ne (pc := 54) (tgt := 60) dX11_task_54 (by decide) (by first | assumption | exact b01_r | exact bz_r | omega | (constructor <;> omega) | exact hM _ | exact hPo _ | exact hTa _ | exact hRo _) (by first | assumption | exact b01_r | exact bz_r | omega | (constructor <;> omega) | exact hM _ | exact hPo _ | exact hTa _ | exact hRo _) (fun c_54 => ?_) (fun c_54 => ?_)
          · refine r_aload_n (pc := 60) dX11_task_60 rfl (by first | rfl | exact isRefV_rf _) ?_
            refine rm_getf (pc := 61) dX11_task_61 fX11_61 (by assumption) rfl ?_
            refine r_istore_n (pc := 64) dX11_task_64 (Nat.le_of_ble_eq_true rfl) ?_
            dsimp only [lsSt, List.set, mLs, mEnt]
            refine r_aload_n (pc := 65) dX11_task_65 rfl (by first | rfl | exact isRefV_rf _) ?_
            refine rj_iconst (pc := 66) dX11_task_66 ?_
            refine rm_putf (pc := 67) dX11_task_67 fX11_61 (by assumption) rfl rfl (Nat.le_of_ble_eq_true rfl) (fun h_67 hB_67 hS_67 => ?_)
            dsimp only [List.set, mFs] at hB_67
            refine r_aload_n (pc := 70) dX11_task_70 rfl (by first | rfl | exact isRefV_rf _) ?_
            refine r_aload_n (pc := 71) dX11_task_71 rfl (by first | rfl | exact isRefV_rf _) ?_
            refine rm_getf (pc := 72) dX11_task_72 fX11_24 (by assumption) rfl ?_
            refine rj_iconst (pc := 75) dX11_task_75 ?_
            refine r_iload_n (pc := 76) dX11_task_76 rfl ?_
            refine r_callV3 (pc := 77) dX11_task_77 qX11_begins kX11_115 vX11_begins (by exact isM.gx (by assumption)) rfl rfl (Nat.le_of_ble_eq_true rfl) ((m_begins 0 (show isM h_67 x (mFs x f4 0 f8 f9 f10 f11 f12 f13 f14 f16 f18 s) m kp was pool tape pln pap rwd rw from hB_67)).deeper (by omega)) (fun v_77 h_77 q_77 => ?_)
            obtain ⟨rfl, hB_77, S_77⟩ := q_77
            have hQ_77 : isM h_77 x (mFs x f4 0 (ps0 f11 f12).1 f6 (ps0 f11 f12).2.1 (ps0 f11 f12).2.2.1 (ps0 f11 f12).2.2.2.1 (ps0 f11 f12).2.2.2.2 f14 f16 f18 4) m kp was pool tape pln pap rwd rw := hB_77
            refine r_aload_n (pc := 80) dX11_task_80 rfl (by first | rfl | exact isRefV_rf _) ?_
            refine rj_iconst (pc := 81) dX11_task_81 ?_
            refine rj_iconst (pc := 82) dX11_task_82 ?_
            refine r_callV2 (pc := 83) dX11_task_83 qX11_isStepsRead kX11_92 vX11_isStepsRead (by exact isM.gx (by assumption)) rfl rfl (Nat.le_of_ble_eq_true rfl) (by have y := m_stepsW (G := G) (l := l) (w := 0) (it := true) (q := ps0 f11 f12) hQ_77 hTx hq0 (by decide) (by decide); rw [show bz true = 1 from rfl] at y; exact y.deeper (by omega)) (fun v_83 h_83 q_83 => ?_)
            obtain ⟨rfl, hB_83, S_83⟩ := q_83
            refine rj_if_eq (pc := 86) (tgt := 96) dX11_task_86 (by decide) (by first | assumption | exact b01_r | exact bz_r | omega | (constructor <;> omega) | exact hM _ | exact hPo _ | exact hTa _ | exact hRo _) (fun c_86 => ?_) (fun c_86 => ?_)
            · try simp only [b01_0, bz_0, Classical.not_not] at c_86
              refine rj_bipush (pc := 96) dX11_task_96 (by decide +kernel) ?_
              refine r_aload_n (pc := 98) dX11_task_98 rfl (by first | rfl | exact isRefV_rf _) ?_
              refine rm_getf (pc := 99) dX11_task_99 fX11_71 (by assumption) rfl ?_
              refine rj_isub (pc := 102) dX11_task_102 ?_
              refine r_ireturn (pc := 103) .int dX11_task_103 rfl (by first | rfl | assumption) ?_
              first
              | (have z0 : (stepsW tape f6 0 true (ps0 f11 f12)).1 = false := by simpa using c_86
                 have z1 : taskR tape (f6.toNat : Int) f11 f12 = (stepsW tape f6 0 true (ps0 f11 f12)) := by rw [ef, hw]; unfold wR; rw [if_neg (by rw [z0]; decide)]
                 have z3 : (taskF m pool tape a b f6.toNat f11 f12) = (-100 - (stepsW tape f6 0 true (ps0 f11 f12)).2.2.1, m, pool) := by unfold taskF; rw [z1, if_neg (by rw [z0]; decide)]
                 rw [z3]
                 exact Or.inr ⟨⟨c_5, c_18, c_29, c_43, c_54⟩, rfl, hB_83.isMs ⟨hqs.2.2.2.2.1, hqs.2.2.2.2.2.1⟩, (hS_67.trans S_77).trans S_83⟩)
              | (have z0 : (stepsW tape f6 0 true (ps0 f11 f12)).1 = true := by simpa using c_86
                 have z1 : taskR tape (f6.toNat : Int) f11 f12 = wholeR f6 (stepsW tape f6 0 true (ps0 f11 f12)).2 := by rw [ef, hw]; unfold wR; rw [if_pos z0]
                 have z2 : (wholeR f6 (stepsW tape f6 0 true (ps0 f11 f12)).2).1 = false := by simpa using c_93
                 have z3 : (taskF m pool tape a b f6.toNat f11 f12) = (-100 - (wholeR f6 (stepsW tape f6 0 true (ps0 f11 f12)).2).2.2.1, m, pool) := by unfold taskF; rw [z1, if_neg (by rw [z2]; decide)]
                 rw [z3]
                 exact Or.inr ⟨⟨c_5, c_18, c_29, c_43, c_54⟩, rfl, hB_90.isMs ⟨hwo.2.2.2.2.1, hwo.2.2.2.2.2.1⟩, ((hS_67.trans S_77).trans S_83).trans S_90⟩)
            · try simp only [b01_0, bz_0, Classical.not_not] at c_86
              refine r_aload_n (pc := 89) dX11_task_89 rfl (by first | rfl | exact isRefV_rf _) ?_
              refine r_callV0 (pc := 90) dX11_task_90 qX11_isWhole kX11_217 vX11_isWhole (by exact isM.gx (by assumption)) rfl rfl (Nat.le_of_ble_eq_true rfl) ((m_isWhole 0 hB_83 hTx hqs).deeper (by omega)) (fun v_90 h_90 q_90 => ?_)
              obtain ⟨rfl, hB_90, S_90⟩ := q_90
              refine rj_if_ne (pc := 93) (tgt := 104) dX11_task_93 (by decide) (by first | assumption | exact b01_r | exact bz_r | omega | (constructor <;> omega) | exact hM _ | exact hPo _ | exact hTa _ | exact hRo _) (fun c_93 => ?_) (fun c_93 => ?_)
              · try simp only [b01_0, bz_0, Classical.not_not] at c_93
                refine r_aload_n (pc := 104) dX11_task_104 rfl (by first | rfl | exact isRefV_rf _) ?_
                refine rm_getf (pc := 105) dX11_task_105 fX11_11 (by assumption) rfl ?_
                refine rj_iconst (pc := 108) dX11_task_108 ?_
                refine rj_iald (pc := 109) (j := 3) dX11_task_109 (by first | exact isM.g0 (by assumption) | exact isM.g3 (by assumption) | exact isM.g4 (by assumption) | exact isM.g8 (by assumption) | exact isM.g7 (by assumption) | exact isM.g6 (by assumption) | exact isM.g5 (by assumption) | exact isM.g1 (by assumption) | exact isM.g2 (by assumption)) (by first | assumption | exact b01_r | exact bz_r | omega | (constructor <;> omega) | exact hM _ | exact hPo _ | exact hTa _ | exact hRo _) (by first | assumption | exact b01_r | exact bz_r | omega | (constructor <;> omega) | exact hM _ | exact hPo _ | exact hTa _ | exact hRo _) (by first | assumption | exact b01_r | exact bz_r | omega | (constructor <;> omega) | exact hM _ | exact hPo _ | exact hTa _ | exact hRo _) (by omega) ?_
                refine r_istore (pc := 110) dX11_task_110 (Nat.le_of_ble_eq_true rfl) ?_
                dsimp only [lsSt, List.set, mLs, mEnt]
                refine r_aload_n (pc := 112) dX11_task_112 rfl (by first | rfl | exact isRefV_rf _) ?_
                refine rm_getf (pc := 113) dX11_task_113 fX11_11 (by assumption) rfl ?_
                refine rj_iconst (pc := 116) dX11_task_116 ?_
                refine r_dup2 (pc := 117) dX11_task_117 rfl rfl ?_
                refine rj_iald (pc := 118) (j := 3) dX11_task_118 (by first | exact isM.g0 (by assumption) | exact isM.g3 (by assumption) | exact isM.g4 (by assumption) | exact isM.g8 (by assumption) | exact isM.g7 (by assumption) | exact isM.g6 (by assumption) | exact isM.g5 (by assumption) | exact isM.g1 (by assumption) | exact isM.g2 (by assumption)) (by first | assumption | exact b01_r | exact bz_r | omega | (constructor <;> omega) | exact hM _ | exact hPo _ | exact hTa _ | exact hRo _) (by first | assumption | exact b01_r | exact bz_r | omega | (constructor <;> omega) | exact hM _ | exact hPo _ | exact hTa _ | exact hRo _) (by first | assumption | exact b01_r | exact bz_r | omega | (constructor <;> omega) | exact hM _ | exact hPo _ | exact hTa _ | exact hRo _) (by omega) ?_
                refine rj_iconst (pc := 119) dX11_task_119 ?_
                refine rj_iadd (pc := 120) dX11_task_120 ?_
                first | refine rm_iast0 (pc := 121) (j := 3) dX11_task_121 (by assumption) (by first | assumption | exact b01_r | exact bz_r | omega | (constructor <;> omega) | exact hM _ | exact hPo _ | exact hTa _ | exact hRo _) (by first | assumption | exact b01_r | exact bz_r | omega | (constructor <;> omega) | exact hM _ | exact hPo _ | exact hTa _ | exact hRo _) (by first | assumption | exact b01_r | exact bz_r | omega | (constructor <;> omega) | exact hM _ | exact hPo _ | exact hTa _ | exact hRo _) (by omega) (fun h_121 hB_121 hS_121 => ?_)
                refine rj_iconst (pc := 122) dX11_task_122 ?_
                refine r_istore (pc := 123) dX11_task_123 (Nat.le_of_ble_eq_true rfl) ?_
                dsimp only [lsSt, List.set, mLs, mEnt]
                have z0 : (stepsW tape f6 0 true (ps0 f11 f12)).1 = true := by simpa using c_86
                have z1 : taskR tape (f6.toNat : Int) f11 f12 = wholeR f6 (stepsW tape f6 0 true (ps0 f11 f12)).2 := by rw [ef, hw]; unfold wR; rw [if_pos z0]
                have z3 : (taskF m pool tape a b f6.toNat f11 f12) = (m 3, newTaskM m a b f6.toNat, pooledP pool tape (m 8).toNat 0 f6.toNat) := by unfold taskF; rw [z1, if_pos (by simpa using c_93)]
                rw [z3]
                have hBq : isM h_121 x (mFs x f4 0 (wholeR f6 (stepsW tape f6 0 true (ps0 f11 f12)).2).2.1 f6 (wholeR f6 (stepsW tape f6 0 true (ps0 f11 f12)).2).2.2.1 (wholeR f6 (stepsW tape f6 0 true (ps0 f11 f12)).2).2.2.2.1 (wholeR f6 (stepsW tape f6 0 true (ps0 f11 f12)).2).2.2.2.2.1 (wholeR f6 (stepsW tape f6 0 true (ps0 f11 f12)).2).2.2.2.2.2 f14 f16 f18 4) (zrF (updI m 3 (m 3 + 1)) (1608 + 72 * (m 3).toNat) 0) kp was pool tape pln pap rwd rw := by rw [zrF_0]; exact hB_121
                have e3 : (((m 3).toNat : Nat) : Int) = m 3 := by omega
                rw [show J (m 3) = J (((m 3).toNat : Nat) : Int) by rw [e3]]
                refine (L_zero (G := G) (l := l) (T := (m 3).toNat) (by omega) (mm := updI m 3 (m 3 + 1)) (f6' := f6) (hz := h_121) (fun h1 S1 B1 => ?_) 72 0 _ (by omega) Same.refl hBq).deeper (by omega)
                rw [e3, show J f6 = J ((f6.toNat : Nat) : Int) by rw [ef]]
                exact L_taskT B1 hTa (by omega) h8 ⟨by omega, by omega⟩ ⟨by omega, by omega⟩ (fun h2 B2 S2 => Or.inr ⟨⟨c_5, c_18, c_29, c_43, c_54⟩, rfl, B2.isMs ⟨hwo.2.2.2.2.1, hwo.2.2.2.2.2.1⟩, (((((hS_67.trans S_77).trans S_83).trans S_90).trans hS_121).trans S1).trans S2⟩)
              · try simp only [b01_0, bz_0, Classical.not_not] at c_93
                refine rj_bipush (pc := 96) dX11_task_96 (by decide +kernel) ?_
                refine r_aload_n (pc := 98) dX11_task_98 rfl (by first | rfl | exact isRefV_rf _) ?_
                refine rm_getf (pc := 99) dX11_task_99 fX11_71 (by assumption) rfl ?_
                refine rj_isub (pc := 102) dX11_task_102 ?_
                refine r_ireturn (pc := 103) .int dX11_task_103 rfl (by first | rfl | assumption) ?_
                first
                | (have z0 : (stepsW tape f6 0 true (ps0 f11 f12)).1 = false := by simpa using c_86
                   have z1 : taskR tape (f6.toNat : Int) f11 f12 = (stepsW tape f6 0 true (ps0 f11 f12)) := by rw [ef, hw]; unfold wR; rw [if_neg (by rw [z0]; decide)]
                   have z3 : (taskF m pool tape a b f6.toNat f11 f12) = (-100 - (stepsW tape f6 0 true (ps0 f11 f12)).2.2.1, m, pool) := by unfold taskF; rw [z1, if_neg (by rw [z0]; decide)]
                   rw [z3]
                   exact Or.inr ⟨⟨c_5, c_18, c_29, c_43, c_54⟩, rfl, hB_83.isMs ⟨hqs.2.2.2.2.1, hqs.2.2.2.2.2.1⟩, (hS_67.trans S_77).trans S_83⟩)
                | (have z0 : (stepsW tape f6 0 true (ps0 f11 f12)).1 = true := by simpa using c_86
                   have z1 : taskR tape (f6.toNat : Int) f11 f12 = wholeR f6 (stepsW tape f6 0 true (ps0 f11 f12)).2 := by rw [ef, hw]; unfold wR; rw [if_pos z0]
                   have z2 : (wholeR f6 (stepsW tape f6 0 true (ps0 f11 f12)).2).1 = false := by simpa using c_93
                   have z3 : (taskF m pool tape a b f6.toNat f11 f12) = (-100 - (wholeR f6 (stepsW tape f6 0 true (ps0 f11 f12)).2).2.2.1, m, pool) := by unfold taskF; rw [z1, if_neg (by rw [z2]; decide)]
                   rw [z3]
                   exact Or.inr ⟨⟨c_5, c_18, c_29, c_43, c_54⟩, rfl, hB_90.isMs ⟨hwo.2.2.2.2.1, hwo.2.2.2.2.2.1⟩, ((hS_67.trans S_77).trans S_83).trans S_90⟩)
          · refine rj_bipush (pc := 57) dX11_task_57 (by decide +kernel) ?_
            refine r_ireturn (pc := 59) .int dX11_task_59 rfl (by first | rfl | assumption) ?_
            exact Or.inl ⟨fun g => by first | exact g.2.2.2.1 c_43 | exact g.2.2.2.2 c_54, by rw [show taskN m a b = -4 by unfold taskN; rw [if_pos c_5, if_pos c_18, if_pos c_29]], rfl⟩
      · try simp only [b01_0, bz_0, Classical.not_not] at c_29
        refine rj_bipush (pc := 32) dX11_task_32 (by decide +kernel) ?_
        refine r_ireturn (pc := 34) .int dX11_task_34 rfl (by first | rfl | assumption) ?_
        exact Or.inl ⟨fun g => c_29 g.2.2.1, by rw [show taskN m a b = -3 by unfold taskN; rw [if_pos c_5, if_pos c_18, if_neg c_29]], rfl⟩
    · try simp only [b01_0, bz_0, Classical.not_not] at c_18
      refine rj_bipush (pc := 21) dX11_task_21 (by decide +kernel) ?_
      refine r_ireturn (pc := 23) .int dX11_task_23 rfl (by first | rfl | assumption) ?_
      exact Or.inl ⟨fun g => c_18 g.2.1, by rw [show taskN m a b = -2 by unfold taskN; rw [if_pos c_5, if_neg c_18]], rfl⟩
  · try simp only [b01_0, bz_0, Classical.not_not] at c_5
    refine rj_iconst (pc := 8) dX11_task_8 ?_
    refine r_ireturn (pc := 9) .int dX11_task_9 rfl (by first | rfl | assumption) ?_
    exact Or.inl ⟨fun g => c_5 g.1, by rw [show taskN m a b = -1 from if_neg c_5], rfl⟩
end mg_75
section mg_76
/-! ===== texts of steps, as they lie in a row ===== -/
theorem brk_ne {c : Int} (h1 : ¬ c = 123) (h2 : ¬ c = 125) : brk c = 0 := by unfold brk; rw [if_neg h1, if_neg h2]
/-- so many figures, from p to e -/
def numS (sr : Nat → Int) (p e k : Nat) : Prop := p < e ∧ e ≤ p + k ∧ ∀ j, p ≤ j → j < e → dgP (sr j)
def sgnS (sr : Nat → Int) (p e : Nat) : Prop := (sr p = 45 ∧ numS sr (p + 1) e 5) ∨ numS sr p e 5
def namS (sr : Nat → Int) (p e : Nat) : Prop := p < e ∧ e ≤ p + 7 ∧ (∀ j, p ≤ j → j < e → isLt (sr j)) ∧ (e = p + 7 ∨ ¬ isLt (sr e))
/-- what may stand behind a step -/
def endC (c : Int) : Prop := c = 59 ∨ c = 125 ∨ c = 0
/-- a step that is no ?, no ( and no ), from p to e -/
def stepT (sr : Nat → Int) (steps : Nat → Nat → Prop) (p e : Nat) : Prop :=
  (sr p = 43 ∧ (48 ≤ sr (p + 1) ∧ sr (p + 1) ≤ 55) ∧ sr (p + 2) = 61 ∧ sgnS sr (p + 3) e) ∨
  (sr p = 33 ∧ numS sr (p + 1) e 2) ∨
  (sr p = 97 ∧ ∃ q, namS sr (p + 1) q ∧ ((e = q ∧ ¬ sr q = 123) ∨ (sr q = 123 ∧ ∃ r, steps (q + 1) r ∧ q + 1 ≤ r ∧ sr r = 125 ∧ e = r + 1))) ∨
  (sr p = 120 ∧ namS sr (p + 1) e) ∨
  (sr p = 109 ∧ ∃ q, namS sr (p + 1) q ∧ sr q = 62 ∧ numS sr (q + 1) e 2) ∨
  (sr p = 107 ∧ dgP (sr (p + 1)) ∧ e = p + 2) ∨
  (sr p = 46 ∧ e = p + 1)
def stepQ (sr : Nat → Int) (steps : Nat → Nat → Prop) (p e : Nat) : Prop :=
  stepT sr steps p e ∨ (sr p = 63 ∧ (48 ≤ sr (p + 1) ∧ sr (p + 1) ≤ 55) ∧ sr (p + 2) = 60 ∧ ∃ q, sgnS sr (p + 3) q ∧ sr q = 58 ∧ stepT sr steps (q + 1) e)
/-- the steps of a closer, from p to E -/
def stsC (sr : Nat → Int) : Nat → Nat → Nat → Prop
  | 0, _, _ => False
  | n + 1, p, E => ∃ e, stepQ sr (stsC sr n) p e ∧ endC (sr e) ∧ (e = E ∨ (e < E ∧ sr e = 59 ∧ stsC sr n (e + 1) E))
/-- a step of a task; how many ( are then to be closed -/
def stepK (sr : Nat → Int) (steps : Nat → Nat → Prop) (o : Nat) (p e o' : Nat) : Prop :=
  (stepQ sr steps p e ∧ o' = o) ∨ (sr p = 40 ∧ e = p + 1 ∧ o' = o + 1) ∨ (sr p = 41 ∧ e = p + 1 ∧ o = o' + 1)
def stsT (sr : Nat → Int) : Nat → Nat → Nat → Nat → Prop
  | 0, _, _, _ => False
  | n + 1, o, p, E => ∃ e o', stepK sr (stsC sr n) o p e o' ∧ endC (sr e) ∧ (e = E ∨ (e < E ∧ sr e = 59 ∧ stsT sr n o' (e + 1) E))
theorem stepT_mono {sr : Nat → Int} {s1 s2 : Nat → Nat → Prop} (h : ∀ p e, s1 p e → s2 p e) {p e : Nat} (k : stepT sr s1 p e) : stepT sr s2 p e := by
  rcases k with k | k | ⟨k1, q, k2, k3⟩ | k | k | k | k
  · exact Or.inl k
  · exact Or.inr (Or.inl k)
  · refine Or.inr (Or.inr (Or.inl ⟨k1, q, k2, ?_⟩))
    rcases k3 with k3 | ⟨k3, r, k4, k5⟩
    · exact Or.inl k3
    · exact Or.inr ⟨k3, r, h _ _ k4, k5⟩
  · exact Or.inr (Or.inr (Or.inr (Or.inl k)))
  · exact Or.inr (Or.inr (Or.inr (Or.inr (Or.inl k))))
  · exact Or.inr (Or.inr (Or.inr (Or.inr (Or.inr (Or.inl k)))))
  · exact Or.inr (Or.inr (Or.inr (Or.inr (Or.inr (Or.inr k)))))
theorem stepQ_mono {sr : Nat → Int} {s1 s2 : Nat → Nat → Prop} (h : ∀ p e, s1 p e → s2 p e) {p e : Nat} (k : stepQ sr s1 p e) : stepQ sr s2 p e := by
  rcases k with k | ⟨k1, k2, k3, q, k4, k5, k6⟩
  · exact Or.inl (stepT_mono h k)
  · exact Or.inr ⟨k1, k2, k3, q, k4, k5, stepT_mono h k6⟩
theorem stepK_mono {sr : Nat → Int} {s1 s2 : Nat → Nat → Prop} (h : ∀ p e, s1 p e → s2 p e) {o p e o' : Nat} (k : stepK sr s1 o p e o') : stepK sr s2 o p e o' := by
  rcases k with ⟨k1, k2⟩ | k | k
  · exact Or.inl ⟨stepQ_mono h k1, k2⟩
  · exact Or.inr (Or.inl k)
  · exact Or.inr (Or.inr k)
theorem stsC_mono {sr : Nat → Int} : ∀ (n k : Nat), n ≤ k → ∀ p E, stsC sr n p E → stsC sr k p E
  | 0, _, _ => fun p E h => absurd h id
  | n + 1, 0, h => by omega
  | n + 1, k + 1, h => by
    intro p E g
    obtain ⟨e, g1, g2, g3⟩ := g
    refine ⟨e, stepQ_mono (fun a b => stsC_mono n k (by omega) a b) g1, g2, ?_⟩
    rcases g3 with g3 | ⟨g3, g4, g5⟩
    · exact Or.inl g3
    · exact Or.inr ⟨g3, g4, stsC_mono n k (by omega) _ _ g5⟩
theorem stsT_mono {sr : Nat → Int} : ∀ (n k : Nat), n ≤ k → ∀ o p E, stsT sr n o p E → stsT sr k o p E
  | 0, _, _ => fun o p E h => absurd h id
  | n + 1, 0, h => by omega
  | n + 1, k + 1, h => by
    intro o p E g
    obtain ⟨e, o', g1, g2, g3⟩ := g
    refine ⟨e, o', stepK_mono (fun a b => stsC_mono n k (by omega) a b) g1, g2, ?_⟩
    rcases g3 with g3 | ⟨g3, g4, g5⟩
    · exact Or.inl g3
    · exact Or.inr ⟨g3, g4, stsT_mono n k (by omega) _ _ _ g5⟩
/-! how far they go -/
theorem sgnS_lt {sr : Nat → Int} {p e : Nat} (h : sgnS sr p e) : p < e ∧ e ≤ p + 6 := by
  rcases h with ⟨_, h⟩ | h
  · obtain ⟨h1, h2, _⟩ := h; omega
  · obtain ⟨h1, h2, _⟩ := h; omega
theorem stepT_lt {sr : Nat → Int} {steps : Nat → Nat → Prop} {p e : Nat} (k : stepT sr steps p e) : p < e := by
  rcases k with ⟨_, _, _, k⟩ | ⟨_, k, _⟩ | ⟨_, q, k2, k3⟩ | ⟨_, k, _⟩ | ⟨_, q, k2, _, k3, _⟩ | ⟨_, _, k⟩ | ⟨_, k⟩
  · have := sgnS_lt k; omega
  · omega
  · have := k2.1
    rcases k3 with ⟨k3, _⟩ | ⟨_, r, _, k4, _, k5⟩ <;> omega
  · omega
  · have := k2.1; omega
  · omega
  · omega
theorem stepQ_lt {sr : Nat → Int} {steps : Nat → Nat → Prop} {p e : Nat} (k : stepQ sr steps p e) : p < e := by
  rcases k with k | ⟨_, _, _, q, k4, _, k6⟩
  · exact stepT_lt k
  · have := sgnS_lt k4
    have := stepT_lt k6
    omega
theorem stepK_lt {sr : Nat → Int} {steps : Nat → Nat → Prop} {o p e o' : Nat} (k : stepK sr steps o p e o') : p < e := by
  rcases k with ⟨k, _⟩ | ⟨_, k, _⟩ | ⟨_, k, _⟩
  · exact stepQ_lt k
  · omega
  · omega
theorem stsT_lt {sr : Nat → Int} {n o p E : Nat} (k : stsT sr n o p E) : p < E := by
  cases n with
  | zero => exact absurd k id
  | succ n =>
    obtain ⟨e, o', k1, _, k3⟩ := k
    have := stepK_lt k1
    rcases k3 with k3 | ⟨k3, _⟩ <;> omega
/-! the same text at another place -/
def likeAt (sr sr' : Nat → Int) (d p E : Nat) : Prop := ∀ j, p ≤ j → j ≤ E → sr' (j + d) = sr j
theorem likeAt.sub {sr sr' : Nat → Int} {d p E q e : Nat} (h : likeAt sr sr' d p E) (h1 : p ≤ q) (h2 : e ≤ E) : likeAt sr sr' d q e := fun j a b => h j (by omega) (by omega)
theorem numS_at {sr sr' : Nat → Int} {d p e k : Nat} (h : likeAt sr sr' d p e) (n : numS sr p e k) : numS sr' (p + d) (e + d) k := by
  obtain ⟨n1, n2, n3⟩ := n
  refine ⟨by omega, by omega, fun j a b => ?_⟩
  have := h (j - d) (by omega) (by omega)
  rw [show j - d + d = j by omega] at this
  rw [this]
  exact n3 _ (by omega) (by omega)
theorem sgnS_at {sr sr' : Nat → Int} {d p e : Nat} (h : likeAt sr sr' d p e) (n : sgnS sr p e) : sgnS sr' (p + d) (e + d) := by
  have hl := sgnS_lt n
  rcases n with ⟨n1, n2⟩ | n
  · refine Or.inl ⟨by rw [h p (by omega) (by omega)]; exact n1, ?_⟩
    have := numS_at (h.sub (q := p + 1) (e := e) (by omega) (by omega)) n2
    rw [show p + 1 + d = p + d + 1 by omega] at this
    exact this
  · exact Or.inr (numS_at h n)
theorem namS_at {sr sr' : Nat → Int} {d p e : Nat} (h : likeAt sr sr' d p e) (n : namS sr p e) : namS sr' (p + d) (e + d) := by
  obtain ⟨n1, n2, n3, n4⟩ := n
  refine ⟨by omega, by omega, fun j a b => ?_, ?_⟩
  · have := h (j - d) (by omega) (by omega)
    rw [show j - d + d = j by omega] at this
    rw [this]
    exact n3 _ (by omega) (by omega)
  · rcases n4 with n4 | n4
    · exact Or.inl (by omega)
    · exact Or.inr (by rw [h e (by omega) (by omega)]; exact n4)
theorem stepT_at {sr sr' : Nat → Int} {s1 s2 : Nat → Nat → Prop} {d p e : Nat} (h : likeAt sr sr' d p e) (hs : ∀ a b, p ≤ a → b ≤ e → s1 a b → s2 (a + d) (b + d)) (k : stepT sr s1 p e) : stepT sr' s2 (p + d) (e + d) := by
  have hlt := stepT_lt k
  have hp : sr' (p + d) = sr p := h p (by omega) (by omega)
  rcases k with ⟨k1, k2, k3, k4⟩ | ⟨k1, k2⟩ | ⟨k1, q, k2, k3⟩ | ⟨k1, k2⟩ | ⟨k1, q, k2, k3, k4⟩ | ⟨k1, k2, k3⟩ | ⟨k1, k2⟩
  · have hl := sgnS_lt k4
    have h1 : sr' (p + d + 1) = sr (p + 1) := by rw [show p + d + 1 = p + 1 + d by omega]; exact h _ (by omega) (by omega)
    have h2 : sr' (p + d + 2) = sr (p + 2) := by rw [show p + d + 2 = p + 2 + d by omega]; exact h _ (by omega) (by omega)
    refine Or.inl ⟨hp.trans k1, by rw [h1]; exact k2, h2.trans k3, ?_⟩
    rw [show p + d + 3 = p + 3 + d by omega]
    exact sgnS_at (h.sub (by omega) (by omega)) k4
  · refine Or.inr (Or.inl ⟨hp.trans k1, ?_⟩)
    rw [show p + d + 1 = p + 1 + d by omega]
    exact numS_at (h.sub (by omega) (by omega)) k2
  · have hn := k2.1
    have hqe : q ≤ e := by rcases k3 with ⟨k3, _⟩ | ⟨_, r, _, k4, _, k5⟩ <;> omega
    refine Or.inr (Or.inr (Or.inl ⟨hp.trans k1, q + d, ?_, ?_⟩))
    · rw [show p + d + 1 = p + 1 + d by omega]
      exact namS_at (h.sub (by omega) (by omega)) k2
    · rcases k3 with ⟨rfl, k3⟩ | ⟨k3, r, k4, k5, k6, k7⟩
      · exact Or.inl ⟨rfl, by rw [h e (by omega) (by omega)]; exact k3⟩
      · refine Or.inr ⟨(h q (by omega) (by omega)).trans k3, r + d, ?_, by omega, (h r (by omega) (by omega)).trans k6, by omega⟩
        rw [show q + d + 1 = q + 1 + d by omega]
        exact hs _ _ (by omega) (by omega) k4
  · refine Or.inr (Or.inr (Or.inr (Or.inl ⟨hp.trans k1, ?_⟩)))
    rw [show p + d + 1 = p + 1 + d by omega]
    exact namS_at (h.sub (by omega) (by omega)) k2
  · have hn := k2.1
    have hm := k4.1
    refine Or.inr (Or.inr (Or.inr (Or.inr (Or.inl ⟨hp.trans k1, q + d, ?_, (h q (by omega) (by omega)).trans k3, ?_⟩))))
    · rw [show p + d + 1 = p + 1 + d by omega]
      exact namS_at (h.sub (by omega) (by omega)) k2
    · rw [show q + d + 1 = q + 1 + d by omega]
      exact numS_at (h.sub (by omega) (by omega)) k4
  · refine Or.inr (Or.inr (Or.inr (Or.inr (Or.inr (Or.inl ⟨hp.trans k1, ?_, by omega⟩)))))
    rw [show p + d + 1 = p + 1 + d by omega, h _ (by omega) (by omega)]
    exact k2
  · exact Or.inr (Or.inr (Or.inr (Or.inr (Or.inr (Or.inr ⟨hp.trans k1, by omega⟩)))))
theorem stepQ_at {sr sr' : Nat → Int} {s1 s2 : Nat → Nat → Prop} {d p e : Nat} (h : likeAt sr sr' d p e) (hs : ∀ a b, p ≤ a → b ≤ e → s1 a b → s2 (a + d) (b + d)) (k : stepQ sr s1 p e) : stepQ sr' s2 (p + d) (e + d) := by
  rcases k with k | ⟨k1, k2, k3, q, k4, k5, k6⟩
  · exact Or.inl (stepT_at h hs k)
  · have hl := sgnS_lt k4
    have hm := stepT_lt k6
    have h1 : sr' (p + d + 1) = sr (p + 1) := by rw [show p + d + 1 = p + 1 + d by omega]; exact h _ (by omega) (by omega)
    have h2 : sr' (p + d + 2) = sr (p + 2) := by rw [show p + d + 2 = p + 2 + d by omega]; exact h _ (by omega) (by omega)
    refine Or.inr ⟨(h p (by omega) (by omega)).trans k1, by rw [h1]; exact k2, h2.trans k3, q + d, ?_, (h q (by omega) (by omega)).trans k5, ?_⟩
    · rw [show p + d + 3 = p + 3 + d by omega]
      exact sgnS_at (h.sub (by omega) (by omega)) k4
    · rw [show q + d + 1 = q + 1 + d by omega]
      exact stepT_at (h.sub (by omega) (by omega)) (fun a b x y => hs a b (by omega) (by omega)) k6
theorem stsC_at {sr sr' : Nat → Int} {d : Nat} : ∀ (n p E : Nat), likeAt sr sr' d p E → stsC sr n p E → stsC sr' n (p + d) (E + d)
  | 0, _, _, _, k => absurd k id
  | n + 1, p, E, h, k => by
    obtain ⟨e, k1, k2, k3⟩ := k
    have hl := stepQ_lt k1
    have he : e ≤ E := by rcases k3 with k3 | ⟨k3, _⟩ <;> omega
    refine ⟨e + d, stepQ_at (h.sub (by omega) he) (fun a b x y z => stsC_at n a b (h.sub (by omega) (by omega)) z) k1, by rw [h e (by omega) he]; exact k2, ?_⟩
    rcases k3 with k3 | ⟨k3, k4, k5⟩
    · exact Or.inl (by omega)
    · refine Or.inr ⟨by omega, (h e (by omega) he).trans k4, ?_⟩
      rw [show e + d + 1 = e + 1 + d by omega]
      exact stsC_at n (e + 1) E (h.sub (by omega) (by omega)) k5
theorem stsT_at {sr sr' : Nat → Int} {d : Nat} : ∀ (n o p E : Nat), likeAt sr sr' d p E → stsT sr n o p E → stsT sr' n o (p + d) (E + d)
  | 0, _, _, _, _, k => absurd k id
  | n + 1, o, p, E, h, k => by
    obtain ⟨e, o', k1, k2, k3⟩ := k
    have hl := stepK_lt k1
    have he : e ≤ E := by rcases k3 with k3 | ⟨k3, _⟩ <;> omega
    have hp : sr' (p + d) = sr p := h p (by omega) (by omega)
    refine ⟨e + d, o', ?_, by rw [h e (by omega) he]; exact k2, ?_⟩
    · rcases k1 with ⟨k1, z⟩ | ⟨k1, z1, z2⟩ | ⟨k1, z1, z2⟩
      · exact Or.inl ⟨stepQ_at (h.sub (by omega) he) (fun a b x y z => stsC_at n a b (h.sub (by omega) (by omega)) z) k1, z⟩
      · exact Or.inr (Or.inl ⟨hp.trans k1, by omega, z2⟩)
      · exact Or.inr (Or.inr ⟨hp.trans k1, by omega, z2⟩)
    · rcases k3 with k3 | ⟨k3, k4, k5⟩
      · exact Or.inl (by omega)
      · refine Or.inr ⟨by omega, (h e (by omega) he).trans k4, ?_⟩
        rw [show e + d + 1 = e + 1 + d by omega]
        exact stsT_at n o' (e + 1) E (h.sub (by omega) (by omega)) k5
/-! what scans make of them -/
/-- from p to e, at a depth from lo on, no scan stops, and the depth is the same behind it -/
def Skip (sr : Nat → Int) (lo : Int) (p e : Nat) : Prop := p ≤ e ∧ ∀ (n : Nat) (u : Int), lo ≤ u → behL sr ((e - p) + n) p u = behL sr n e u ∧ (1 ≤ u → brL sr ((e - p) + n) p u = brL sr n e u ∧ (brStop sr n e u → brStop sr ((e - p) + n) p u))
theorem Skip.rf {sr : Nat → Int} {lo : Int} {p : Nat} : Skip sr lo p p := ⟨Nat.le_refl _, fun n u _ => by rw [Nat.sub_self, Nat.zero_add]; exact ⟨rfl, fun _ => ⟨rfl, id⟩⟩⟩
theorem Skip.tr {sr : Nat → Int} {lo : Int} {p q e : Nat} (a : Skip sr lo p q) (b : Skip sr lo q e) : Skip sr lo p e := by
  obtain ⟨a1, a2⟩ := a
  obtain ⟨b1, b2⟩ := b
  refine ⟨by omega, fun n u hu => ?_⟩
  obtain ⟨c1, c2⟩ := a2 ((e - q) + n) u hu
  obtain ⟨d1, d2⟩ := b2 n u hu
  rw [show (e - p) + n = (q - p) + ((e - q) + n) by omega]
  refine ⟨c1.trans d1, fun h => ⟨(c2 h).1.trans (d2 h).1, fun s => (c2 h).2 ((d2 h).2 s)⟩⟩
theorem Skip.up {sr : Nat → Int} {lo lo' : Int} {p e : Nat} (a : Skip sr lo p e) (h : lo ≤ lo') : Skip sr lo' p e := ⟨a.1, fun n u hu => a.2 n u (by omega)⟩
theorem Skip.ch {sr : Nat → Int} {lo : Int} {p : Nat} (h1 : ¬ sr p = 59) (h2 : ¬ sr p = 123) (h3 : ¬ sr p = 125) : Skip sr lo p (p + 1) := by
  refine ⟨by omega, fun n u hu => ?_⟩
  rw [show p + 1 - p + n = n + 1 by omega]
  have hb := brk_ne h2 h3
  refine ⟨?_, fun h => ⟨?_, fun s => ?_⟩⟩
  · rw [behL, if_pos (Or.inr h1), hb, Int.add_zero]
  · rw [brL, if_pos (by omega), hb, Int.add_zero]
  · unfold brStop
    intro _
    rw [hb, Int.add_zero]; exact s
theorem Skip.semi {sr : Nat → Int} {p : Nat} (h1 : sr p = 59) : Skip sr 1 p (p + 1) := by
  refine ⟨by omega, fun n u hu => ?_⟩
  rw [show p + 1 - p + n = n + 1 by omega]
  have hb : brk (sr p) = 0 := by rw [h1]; decide
  refine ⟨?_, fun h => ⟨?_, fun s => ?_⟩⟩
  · rw [behL, if_pos (Or.inl (by omega)), hb, Int.add_zero]
  · rw [brL, if_pos (by omega), hb, Int.add_zero]
  · unfold brStop
    intro _
    rw [hb, Int.add_zero]; exact s
theorem Skip.brace {sr : Nat → Int} {q r : Nat} (h1 : sr q = 123) (a : Skip sr 1 (q + 1) r) (h2 : sr r = 125) : Skip sr 0 q (r + 1) := by
  obtain ⟨a1, a2⟩ := a
  refine ⟨by omega, fun n u hu => ?_⟩
  have b1 : brk (sr q) = 1 := by rw [h1]; decide
  have b2 : brk (sr r) = -1 := by rw [h2]; decide
  rw [show r + 1 - q + n = ((r - (q + 1)) + (n + 1)) + 1 by omega]
  obtain ⟨c1, c2⟩ := a2 (n + 1) (u + 1) (by omega)
  obtain ⟨c3, c4⟩ := c2 (by omega)
  refine ⟨?_, fun h => ⟨?_, fun s => ?_⟩⟩
  · rw [behL, if_pos (Or.inr (by rw [h1]; decide)), b1, c1, behL, if_pos (Or.inl (by omega)), b2, show u + 1 + -1 = u by omega]
  · rw [brL, if_pos (by omega), b1, c3, brL, if_pos (by omega), b2, show u + 1 + -1 = u by omega]
  · unfold brStop
    intro _
    rw [b1]
    refine c4 ?_
    unfold brStop
    intro _
    rw [b2, show u + 1 + -1 = u by omega]
    exact s
theorem Skip.run {sr : Nat → Int} {lo : Int} : ∀ (n p e : Nat), p + n = e → (∀ j, p ≤ j → j < e → ¬ sr j = 59 ∧ ¬ sr j = 123 ∧ ¬ sr j = 125) → Skip sr lo p e
  | 0, p, e, h, _ => by
    obtain rfl : p = e := by omega
    exact Skip.rf
  | n + 1, p, e, h, k => by
    obtain ⟨k1, k2, k3⟩ := k p (by omega) (by omega)
    exact (Skip.ch k1 k2 k3).tr (Skip.run n (p + 1) e (by omega) (fun j a b => k j (by omega) b))
theorem numS_skip {sr : Nat → Int} {lo : Int} {p e k : Nat} (h : numS sr p e k) : Skip sr lo p e := by
  obtain ⟨h1, h2, h3⟩ := h
  exact Skip.run (e - p) p e (by omega) (fun j a b => by have := h3 j a b; omega)
theorem sgnS_skip {sr : Nat → Int} {lo : Int} {p e : Nat} (h : sgnS sr p e) : Skip sr lo p e := by
  rcases h with ⟨h1, h2⟩ | h
  · exact (Skip.ch (by omega) (by omega) (by omega)).tr (numS_skip h2)
  · exact numS_skip h
theorem namS_skip {sr : Nat → Int} {lo : Int} {p e : Nat} (h : namS sr p e) : Skip sr lo p e := by
  obtain ⟨h1, h2, h3, _⟩ := h
  exact Skip.run (e - p) p e (by omega) (fun j a b => by have := h3 j a b; unfold isLt at this; omega)
theorem stepT_skip {sr : Nat → Int} {steps : Nat → Nat → Prop} {p e : Nat} (hs : ∀ a b, steps a b → Skip sr 1 a b) (k : stepT sr steps p e) : Skip sr 0 p e := by
  rcases k with ⟨k1, k2, k3, k4⟩ | ⟨k1, k2⟩ | ⟨k1, q, k2, k3⟩ | ⟨k1, k2⟩ | ⟨k1, q, k2, k3, k4⟩ | ⟨k1, k2, k3⟩ | ⟨k1, k2⟩
  · exact ((Skip.ch (by omega) (by omega) (by omega)).tr ((Skip.ch (by omega) (by omega) (by omega)).tr (Skip.ch (p := p + 2) (by omega) (by omega) (by omega)))).tr (sgnS_skip k4)
  · exact (Skip.ch (by omega) (by omega) (by omega)).tr (numS_skip k2)
  · refine ((Skip.ch (by omega) (by omega) (by omega)).tr (namS_skip k2)).tr ?_
    rcases k3 with ⟨rfl, _⟩ | ⟨k3, r, k4, k5, k6, rfl⟩
    · exact Skip.rf
    · exact Skip.brace k3 (hs _ _ k4) k6
  · exact (Skip.ch (by omega) (by omega) (by omega)).tr (namS_skip k2)
  · exact ((Skip.ch (by omega) (by omega) (by omega)).tr (namS_skip k2)).tr ((Skip.ch (by omega) (by omega) (by omega)).tr (numS_skip k4))
  · subst k3
    exact (Skip.ch (by omega) (by omega) (by omega)).tr (Skip.ch (by omega) (by omega) (by omega))
  · subst k2
    exact Skip.ch (by omega) (by omega) (by omega)
theorem stepQ_skip {sr : Nat → Int} {steps : Nat → Nat → Prop} {p e : Nat} (hs : ∀ a b, steps a b → Skip sr 1 a b) (k : stepQ sr steps p e) : Skip sr 0 p e := by
  rcases k with k | ⟨k1, k2, k3, q, k4, k5, k6⟩
  · exact stepT_skip hs k
  · exact (((Skip.ch (by omega) (by omega) (by omega)).tr ((Skip.ch (by omega) (by omega) (by omega)).tr (Skip.ch (p := p + 2) (by omega) (by omega) (by omega)))).tr (sgnS_skip k4)).tr ((Skip.ch (by omega) (by omega) (by omega)).tr (stepT_skip hs k6))
theorem stsC_skip {sr : Nat → Int} : ∀ (n p E : Nat), stsC sr n p E → Skip sr 1 p E
  | 0, _, _, k => absurd k id
  | n + 1, p, E, k => by
    obtain ⟨e, k1, k2, k3⟩ := k
    have h1 := (stepQ_skip (fun a b => stsC_skip n a b) k1).up (lo' := 1) (by omega)
    rcases k3 with rfl | ⟨k3, k4, k5⟩
    · exact h1
    · exact (h1.tr (Skip.semi k4)).tr (stsC_skip n _ _ k5)
theorem stepK_skip {sr : Nat → Int} {n o p e o' : Nat} (k : stepK sr (stsC sr n) o p e o') : Skip sr 0 p e := by
  rcases k with ⟨k, _⟩ | ⟨k1, rfl, _⟩ | ⟨k1, rfl, _⟩
  · exact stepQ_skip (fun a b => stsC_skip n a b) k
  · exact Skip.ch (by omega) (by omega) (by omega)
  · exact Skip.ch (by omega) (by omega) (by omega)
/-- where the next step begins -/
theorem Skip.beh {sr : Nat → Int} {p e E : Nat} (a : Skip sr 0 p e) (he : e ≤ E) (h : e = E ∨ sr e = 59) : behL sr (E - p) p 0 = e := by
  have z := (a.2 (E - e) 0 (Int.le_refl _)).1
  rw [show e - p + (E - e) = E - p by have := a.1; omega] at z
  rw [z]
  cases hk : E - e with
  | zero => unfold behL; rfl
  | succ k =>
    unfold behL
    rw [if_neg (by rcases h with h | h <;> omega)]
/-- the braces of a closer -/
theorem Skip.br {sr : Nat → Int} {p r n : Nat} (a : Skip sr 1 p r) (h : sr r = 125) (hn : r - p + 1 ≤ n) : brL sr (n + 1) p 1 = r + 1 ∧ brStop sr n p 1 := by
  have b2 : brk (sr r) = -1 := by rw [h]; decide
  have hl := a.1
  constructor
  · obtain ⟨-, z⟩ := a.2 (n + 1 - (r - p)) 1 (Int.le_refl _)
    obtain ⟨z1, -⟩ := z (Int.le_refl _)
    rw [show r - p + (n + 1 - (r - p)) = n + 1 by omega] at z1
    rw [z1, show n + 1 - (r - p) = (n - 1 - (r - p)) + 1 + 1 by omega, brL, if_pos (by decide), b2, brL, if_neg (by decide)]
  · obtain ⟨-, w⟩ := a.2 (n - (r - p)) 1 (Int.le_refl _)
    obtain ⟨-, w2⟩ := w (Int.le_refl _)
    rw [show r - p + (n - (r - p)) = n by omega] at w2
    refine w2 ?_
    rw [show n - (r - p) = (n - 1 - (r - p)) + 1 by omega]
    unfold brStop
    intro _
    rw [b2]
    cases n - 1 - (r - p) with
    | zero => unfold brStop; decide
    | succ k => unfold brStop; intro h; exact absurd h (by decide)
/-! numbers -/
theorem stops_run {sr : Nat → Int} : ∀ (n p e : Nat), p ≤ e → e ≤ p + n → (∀ j, p ≤ j → j < e → dgP (sr j)) → ¬ dgP (sr e) → stopsBy sr n p
  | 0, p, e, h1, h2, h3, h4 => by
    obtain rfl : p = e := by omega
    exact h4
  | n + 1, p, e, h1, h2, h3, h4 => by
    unfold stopsBy
    intro hd
    by_cases c : p = e
    · subst c; exact absurd hd h4
    · exact stops_run n (p + 1) e (by omega) (by omega) (fun j a b => h3 j (by omega) b) h4
/-- ten to so many -/
def tenP : Nat → Int
  | 0 => 1
  | n + 1 => 10 * tenP n
theorem tenP_1 (n : Nat) : 1 ≤ tenP n := by
  induction n with
  | zero => exact Int.le_refl _
  | succ n ih => unfold tenP; omega
theorem naL_b {sr : Nat → Int} : ∀ (k n p e : Nat) (v b : Int), p ≤ e → e ≤ p + k → (∀ j, p ≤ j → j < e → dgP (sr j)) → ¬ dgP (sr e) → 0 ≤ v → v < b → 0 ≤ naL sr n p v ∧ naL sr n p v < b * tenP k
  | k, 0, p, e, v, b, h1, h2, h3, h4, h5, h6 => by
    have := tenP_1 k
    unfold naL
    refine ⟨h5, Int.lt_of_lt_of_le h6 ?_⟩
    have := Int.mul_le_mul_of_nonneg_left (c := b) this (by omega)
    omega
  | 0, n + 1, p, e, v, b, h1, h2, h3, h4, h5, h6 => by
    obtain rfl : p = e := by omega
    unfold naL
    rw [if_neg h4]
    unfold tenP
    omega
  | k + 1, n + 1, p, e, v, b, h1, h2, h3, h4, h5, h6 => by
    unfold naL
    split
    · rename_i hd
      by_cases c : p = e
      · subst c; exact absurd hd h4
      · have z := naL_b k n (p + 1) e (10 * v + sr p - 48) (b * 10) (by omega) (by omega) (fun j a b => h3 j (by omega) b) h4 (by omega) (by omega)
        refine ⟨z.1, ?_⟩
        have e0 : tenP (k + 1) = 10 * tenP k := rfl
        have e1 : b * tenP (k + 1) = b * 10 * tenP k := by rw [e0, ← Int.mul_assoc]
        rw [e1]; exact z.2
    · have := tenP_1 (k + 1)
      refine ⟨h5, Int.lt_of_lt_of_le h6 ?_⟩
      have := Int.mul_le_mul_of_nonneg_left (c := b) this (by omega)
      omega
theorem endC_nd {c : Int} (h : endC c) : ¬ dgP c := by unfold endC at h; unfold dgP; omega
/-- a number ends where its figures end: how it is read -/
theorem num_dig {sr : Nat → Int} {p e k : Nat} (h : numS sr p e k) (hk : k ≤ 5) (he : ¬ dgP (sr e)) : digR sr p 20 ∧ (0 ≤ numAt sr 20 p ∧ numAt sr 20 p < 100000) := by
  obtain ⟨h1, h2, h3⟩ := h
  have hp := h3 p (Nat.le_refl _) h1
  have hm : ¬ sr p = 45 := by unfold dgP at hp; omega
  refine ⟨⟨by decide, by rw [if_neg hm]; exact stops_run 20 p e (by omega) (by omega) h3 he⟩, ?_⟩
  have z := naL_b (sr := sr) 5 (20 + 1) p e 0 1 (by omega) (by omega) h3 he (Int.le_refl _) (by decide)
  unfold numAt
  rw [if_neg hm]
  have e1 : (1 : Int) * tenP 5 = 100000 := by decide
  rw [e1] at z
  exact z
theorem sgn_dig {sr : Nat → Int} {p e : Nat} (h : sgnS sr p e) (he : ¬ dgP (sr e)) : digR sr p 20 ∧ (-100000 < numAt sr 20 p ∧ numAt sr 20 p < 100000) := by
  rcases h with ⟨h0, h1, h2, h3⟩ | h
  · refine ⟨⟨by decide, by rw [if_pos h0]; exact stops_run 20 (p + 1) e (by omega) (by omega) h3 he⟩, ?_⟩
    have z := naL_b (sr := sr) 5 (20 + 1) (p + 1) e 0 1 (by omega) (by omega) h3 he (Int.le_refl _) (by decide)
    unfold numAt
    rw [if_pos h0]
    have e1 : (1 : Int) * tenP 5 = 100000 := by decide
    rw [e1] at z
    omega
  · obtain ⟨a, b⟩ := num_dig h (Nat.le_refl _) he
    exact ⟨a, by omega, b.2⟩
/-- a name ends where its letters end -/
theorem nam_end {sr : Nat → Int} {p e : Nat} (h : namS sr p e) : neL sr 7 p = e := by
  obtain ⟨h1, h2, h3, h4⟩ := h
  have key : ∀ n k : Nat, p ≤ k → k ≤ e → k + n = p + 7 → neL sr n k = e := by
    intro n
    induction n with
    | zero =>
      intro k a b c
      unfold neL; omega
    | succ n ih =>
      intro k a b c
      unfold neL
      by_cases g : k = e
      · subst g
        rw [if_neg (show ¬ (97 ≤ sr k ∧ sr k ≤ 122) from by rcases h4 with h4 | h4; omega; exact h4)]
      · have := h3 k a (by omega)
        rw [if_pos (show 97 ≤ sr k ∧ sr k ≤ 122 from this)]
        exact ih (k + 1) (by omega) (by omega) (by omega)
  exact key 7 p (Nat.le_refl _) (by omega) rfl
end mg_76
section mg_77
/-! ===== what holds of the reference's row between steps, and what a step keeps ===== -/
theorem cnt_congr {p p' : Nat → Bool} : ∀ n : Nat, (∀ q, q < n → p q = p' q) → cnt p n = cnt p' n
  | 0, _ => rfl
  | n + 1, h => by
    unfold cnt
    rw [cnt_congr n (fun q hq => h q (by omega)), h n (by omega)]
theorem cnt_S {p : Nat → Bool} {n : Nat} : cnt p (n + 1) = cnt p n + (if p n then 1 else 0) := rfl
theorem cnt_upd {p p' : Nat → Bool} {t M : Nat} (h1 : p t = false) (h2 : p' t = true) (h : ∀ q, q < M → q ≠ t → p q = p' q) : ∀ n : Nat, n ≤ M → cnt p' n = cnt p n + (if t < n then 1 else 0)
  | 0, _ => by rw [if_neg (Nat.not_lt_zero t)]; rfl
  | n + 1, hn => by
    have ih := cnt_upd h1 h2 h n (by omega)
    rw [cnt_S, cnt_S, ih]
    by_cases c : n = t
    · subst c
      rw [h1, h2, if_neg (Nat.lt_irrefl n), if_pos (Nat.lt_succ_self n)]
      simp
    · rw [h n (by omega) c]
      generalize (if p' n = true then (1 : Int) else 0) = z
      by_cases d : t < n
      · rw [if_pos d, if_pos (show t < n + 1 by omega)]; omega
      · rw [if_neg d, if_neg (show ¬ t < n + 1 by omega)]; omega
theorem cnt_none {p : Nat → Bool} {N : Nat} : ∀ k : Nat, (∀ j, N ≤ j → j < N + k → p j = false) → cnt p (N + k) = cnt p N
  | 0, _ => rfl
  | k + 1, h => by
    rw [show N + (k + 1) = (N + k) + 1 by omega, cnt_S, h (N + k) (by omega) (by omega), cnt_none k (fun j a b => h j a (by omega))]
    simp
theorem cnt_lt {p : Nat → Bool} {t : Nat} (h : p t = false) : ∀ n : Nat, t < n → cnt p n < n
  | 0, g => by omega
  | n + 1, g => by
    unfold cnt
    by_cases c : n = t
    · subst c
      rw [h]
      have := cnt_r p n
      simp; omega
    · have := cnt_lt h n (by omega)
      split <;> omega
def clsB (m : Nat → Int) (q : Nat) : Bool := decide (m (258 + 14 * q) = 2)
def cngB (m : Nat → Int) (q : Nat) : Bool := decide (m (258 + 14 * q) = 1)
def textT (b : Int) (pool : Nat → Int) (P E : Nat) : Prop := P ≤ E ∧ E ≤ P + 120 ∧ ((P = E ∧ E ≤ 12200) ∨ ((E : Int) < b ∧ ∃ n, stsC pool n P E))
theorem textT.up {b b' : Int} {pool : Nat → Int} {P E : Nat} (h : textT b pool P E) (hb : b ≤ b') : textT b' pool P E := ⟨h.1, h.2.1, h.2.2.elim Or.inl (fun z => Or.inr ⟨by omega, z.2⟩)⟩
theorem textT.le {b : Int} {pool : Nat → Int} {P E : Nat} (h : textT b pool P E) (hb : b ≤ 12200) : E ≤ 12200 := h.2.2.elim (fun z => z.2) (fun z => by omega)
def thOk (m pool : Nat → Int) (t : Nat) : Prop := (0 ≤ m (258 + 14 * t) ∧ m (258 + 14 * t) ≤ 2) ∧ (0 ≤ m (259 + 14 * t) ∧ m (259 + 14 * t) < m 0) ∧ (1 ≤ m (261 + 14 * t) ∧ 0 ≤ m (260 + 14 * t) ∧ m (260 + 14 * t) ≤ m 6) ∧ ∃ P E : Nat, m (262 + 14 * t) = P ∧ m (263 + 14 * t) = E ∧ textT (m 8) pool P E
def Inv (m pool : Nat → Int) (B : Int) : Prop :=
  mOk m ∧ (1 ≤ m 0 ∧ 0 ≤ m 8 ∧ m 8 ≤ 12200) ∧ (∀ t : Nat, (t : Int) < m 1 → thOk m pool t) ∧ (cnt (clsB m) (m 1).toNat = m 2 ∧ m 4 ≤ m 2 ∧ m 5 ≤ m 2) ∧ (0 ≤ m 6 ∧ m 6 + 121 * (90 - m 2) ≤ B) ∧ (∀ t k : Nat, t < 90 → k < 7 → 0 ≤ m (265 + 14 * t + k) ∧ m (265 + 14 * t + k) ≤ 122)
theorem Inv.up {m pool : Nat → Int} {B B' : Int} (h : Inv m pool B) (hb : B ≤ B') : Inv m pool B' := by
  obtain ⟨h1, h2, h3, h4, ⟨h5, h6⟩, h7⟩ := h
  exact ⟨h1, h2, h3, h4, ⟨h5, by omega⟩, h7⟩
/-- cells that closers leave alone -/
def far (q : Nat) : Prop := q = 0 ∨ q = 3 ∨ q = 7 ∨ q = 8 ∨ (18 ≤ q ∧ q < 258) ∨ (1608 ≤ q ∧ q < 2328 ∧ ∀ t : Nat, q ≠ 1614 + 72 * t)
/-- what may have happened by a closer's step -/
def Ev (m m' : Nat → Int) : Prop :=
  (∀ q, far q → m' q = m q) ∧ m 1 ≤ m' 1 ∧ (m 2 ≤ m' 2 ∧ m 6 ≤ m' 6) ∧
  (∀ t : Nat, (t : Int) < m 1 → m' (262 + 14 * t) = m (262 + 14 * t) ∧ m' (263 + 14 * t) = m (263 + 14 * t) ∧ (m' (258 + 14 * t) = 1 ↔ m (258 + 14 * t) = 1) ∧ (m (258 + 14 * t) = 2 → m' (258 + 14 * t) = 2)) ∧
  (∀ t : Nat, m 1 ≤ (t : Int) → (t : Int) < m' 1 → ¬ m' (258 + 14 * t) = 1) ∧
  (∀ t : Nat, t ≤ 9 → m' (1614 + 72 * t) = m (1614 + 72 * t) ∨ m' (1614 + 72 * t) = 1)
theorem Ev.rf {m : Nat → Int} : Ev m m := ⟨fun _ _ => rfl, Int.le_refl _, ⟨Int.le_refl _, Int.le_refl _⟩, fun _ _ => ⟨rfl, rfl, Iff.rfl, id⟩, fun t a b => by omega, fun _ _ => Or.inl rfl⟩
theorem Ev.tr {a b c : Nat → Int} (h : Ev a b) (k : Ev b c) : Ev a c := by
  obtain ⟨h1, h2, h3, h4, h5, h6⟩ := h
  obtain ⟨k1, k2, k3, k4, k5, k6⟩ := k
  refine ⟨fun q hq => (k1 q hq).trans (h1 q hq), by omega, by omega, fun t ht => ?_, fun t x y => ?_, fun t ht => ?_⟩
  · obtain ⟨z1, z2, z3, z4⟩ := h4 t ht
    obtain ⟨w1, w2, w3, w4⟩ := k4 t (by omega)
    exact ⟨w1.trans z1, w2.trans z2, w3.trans z3, fun g => w4 (z4 g)⟩
  · by_cases g : (t : Int) < b 1
    · obtain ⟨w1, w2, w3, w4⟩ := k4 t g
      have := h5 t x g
      exact fun q => this (w3.mp q)
    · exact k5 t (by omega) y
  · rcases k6 t ht with w | w
    · rw [w]; exact h6 t ht
    · exact Or.inr w
theorem Ev.cng {m m' : Nat → Int} (h : Ev m m') (h0 : 0 ≤ m 1) : cnt (cngB m') (m' 1).toNat = cnt (cngB m) (m 1).toNat := by
  obtain ⟨h1, h2, h3, h4, h5, h6⟩ := h
  have e1 : cnt (cngB m') (m 1).toNat = cnt (cngB m) (m 1).toNat := cnt_congr _ (fun q hq => by
    obtain ⟨w1, w2, w3, w4⟩ := h4 q (by omega)
    unfold cngB
    by_cases g : m (258 + 14 * q) = 1
    · rw [decide_eq_true g, decide_eq_true (w3.mpr g)]
    · rw [decide_eq_false g, decide_eq_false (fun z => g (w3.mp z))])
  rw [← e1]
  have := cnt_none (p := cngB m') (N := (m 1).toNat) ((m' 1).toNat - (m 1).toNat) (fun j a b => decide_eq_false (h5 j (by omega) (by omega)))
  rw [show (m 1).toNat + ((m' 1).toNat - (m 1).toNat) = (m' 1).toNat by omega] at this
  exact this
theorem Inv.lt {m pool : Nat → Int} {B : Int} (h : Inv m pool B) {t : Nat} (h1 : (t : Int) < m 1) (h2 : ¬ m (258 + 14 * t) = 2) : m 2 < m 1 ∧ m 2 ≤ 89 ∧ m 4 ≤ 89 ∧ m 5 ≤ 89 := by
  obtain ⟨⟨hM, k0, k1, k2, k3, k4, k5, k7⟩, g2, g3, ⟨g4, g5, g6⟩, -⟩ := h
  have := cnt_lt (p := clsB m) (t := t) (decide_eq_false h2) (m 1).toNat (by omega)
  omega
theorem updM_in {m : Nat → Int} (hM : ∀ q, InR (m q)) {k : Nat} {v : Int} (hv : InR v) : ∀ q, InR (updI m k v q) := by
  intro q; unfold updI; split
  · exact hv
  · exact hM q
/-- a cell that Inv doesn't speak of -/
theorem Inv.out {m pool : Nat → Int} {B : Int} (h : Inv m pool B) {k : Nat} {v : Int} (hv : InR v) (hk : 7 ≤ k ∧ ¬ k = 8) (hk2 : k < 258 ∨ 1518 ≤ k) : Inv (updI m k v) pool B := by
  obtain ⟨⟨hM, k0, k1, k2, k3, k4, k5, k7⟩, g2, g3, g4, g5, g6⟩ := h
  have e : ∀ q, (q < 7 ∨ q = 8) → updI m k v q = m q := fun q hq => updI_n (by omega)
  have e2 : ∀ q, 258 ≤ q → q < 1518 → updI m k v q = m q := fun q a b => updI_n (by omega)
  have c : cnt (clsB (updI m k v)) (m 1).toNat = cnt (clsB m) (m 1).toNat := cnt_congr _ (fun q hq => by unfold clsB; rw [e2 _ (by omega) (by omega)])
  refine ⟨⟨updM_in hM hv, ?_⟩, ?_⟩
  · rw [e 0 (by omega), e 1 (by omega), e 2 (by omega), e 3 (by omega), e 4 (by omega), e 5 (by omega)]
    exact ⟨k0, k1, k2, k3, k4, k5, fun t ht => by rw [e2 _ (by omega) (by omega)]; exact k7 t ht⟩
  · rw [e 0 (by omega), e 1 (by omega), e 2 (by omega), e 4 (by omega), e 5 (by omega), e 6 (by omega), e 8 (by omega), c]
    refine ⟨g2, fun t ht => ?_, g4, g5, fun t j ht hj => by rw [e2 _ (by omega) (by omega)]; exact g6 t j ht hj⟩
    have := g3 t ht
    unfold thOk at this ⊢
    rw [e2 (258 + 14 * t) (by omega) (by omega), e2 (259 + 14 * t) (by omega) (by omega), e2 (260 + 14 * t) (by omega) (by omega), e 6 (by omega), e2 (261 + 14 * t) (by omega) (by omega), e2 (262 + 14 * t) (by omega) (by omega), e2 (263 + 14 * t) (by omega) (by omega), e 0 (by omega), e 8 (by omega)]
    exact this
theorem Ev.out {m : Nat → Int} {k : Nat} {v : Int} (hf : ¬ far k) (hk : 7 ≤ k) (hk2 : k < 258 ∨ 1518 ≤ k) (h1 : m 1 ≤ 90) (ha : k < 258 ∨ v = 1) : Ev m (updI m k v) := by
  have e : ∀ q, q < 7 → updI m k v q = m q := fun q hq => updI_n (by omega)
  refine ⟨fun q hq => updI_n (fun z => hf (z ▸ hq)), ?_, ?_, fun t ht => ?_, fun t a b => ?_, fun t ht => ?_⟩
  · rw [e 1 (by omega)]; exact Int.le_refl _
  · rw [e 2 (by omega), e 6 (by omega)]; exact ⟨Int.le_refl _, Int.le_refl _⟩
  · rw [updI_n (by omega), updI_n (by omega), updI_n (by omega)]
    exact ⟨rfl, rfl, Iff.rfl, id⟩
  · rw [e 1 (by omega)] at b; omega
  · by_cases c : 1614 + 72 * t = k
    · rcases ha with ha | ha
      · omega
      · rw [← c, updI_s]; exact Or.inr ha
    · rw [updI_n c]; exact Or.inl rfl
/-! a THING is MOVED -/
theorem inv_move {m pool : Nat → Int} {B : Int} (h : Inv m pool B) {t : Nat} {s : Int} (ht : (t : Int) < m 1) (hs : 0 ≤ s ∧ s < m 0) (hB : B ≤ 2000000000) : Inv (movesM m t s) pool (B + 1) ∧ Ev m (movesM m t s) := by
  obtain ⟨⟨hM, k0, k1, k2, k3, k4, k5, k7⟩, g2, g3, g4, g5, g6⟩ := h
  have e : ∀ q, ¬ q = 6 → ¬ q = 259 + 14 * t → ¬ q = 260 + 14 * t → movesM m t s q = m q := fun q a b c => by
    unfold movesM
    rw [updI_n c, updI_n a, updI_n b]
  have e6 : movesM m t s 6 = m 6 + 1 := by unfold movesM; rw [updI_n (by omega), updI_s]
  have e0 : movesM m t s (260 + 14 * t) = m 6 + 1 := by unfold movesM; rw [updI_s]
  have e9 : movesM m t s (259 + 14 * t) = s := by unfold movesM; rw [updI_n (by omega), updI_n (by omega), updI_s]
  have r1 : InR (m 6 + 1) := ⟨by omega, by omega⟩
  have c : cnt (clsB (movesM m t s)) (m 1).toNat = cnt (clsB m) (m 1).toNat := cnt_congr _ (fun q hq => by unfold clsB; rw [e _ (by omega) (by omega) (by omega)])
  refine ⟨⟨⟨updM_in (updM_in (updM_in hM ⟨by omega, by omega⟩) r1) r1, ?_⟩, ?_⟩, ?_⟩
  · rw [e 0 (by omega) (by omega) (by omega), e 1 (by omega) (by omega) (by omega), e 2 (by omega) (by omega) (by omega), e 3 (by omega) (by omega) (by omega), e 4 (by omega) (by omega) (by omega), e 5 (by omega) (by omega) (by omega)]
    exact ⟨k0, k1, k2, k3, k4, k5, fun u hu => by rw [e _ (by omega) (by omega) (by omega)]; exact k7 u hu⟩
  · rw [e 0 (by omega) (by omega) (by omega), e 1 (by omega) (by omega) (by omega), e 2 (by omega) (by omega) (by omega), e 4 (by omega) (by omega) (by omega), e 5 (by omega) (by omega) (by omega), e 8 (by omega) (by omega) (by omega), e6, c]
    refine ⟨g2, fun u hu => ?_, g4, ⟨by omega, by omega⟩, fun u j hu hj => by rw [e _ (by omega) (by omega) (by omega)]; exact g6 u j hu hj⟩
    have z := g3 u hu
    unfold thOk at z ⊢
    rw [e (258 + 14 * u) (by omega) (by omega) (by omega), e6, e (261 + 14 * u) (by omega) (by omega) (by omega), e (262 + 14 * u) (by omega) (by omega) (by omega), e (263 + 14 * u) (by omega) (by omega) (by omega), e 0 (by omega) (by omega) (by omega), e 8 (by omega) (by omega) (by omega)]
    by_cases q : u = t
    · subst q; rw [e9, e0]; exact ⟨z.1, hs, ⟨z.2.2.1.1, by omega, Int.le_refl _⟩, z.2.2.2⟩
    · rw [e (259 + 14 * u) (by omega) (by omega) (by omega), e (260 + 14 * u) (by omega) (by omega) (by omega)]; exact ⟨z.1, z.2.1, ⟨z.2.2.1.1, z.2.2.1.2.1, by omega⟩, z.2.2.2⟩
  · refine ⟨fun q hq => ?_, ?_, ?_, fun u hu => ?_, fun u a b => ?_, fun u hu => Or.inl (e _ (by omega) (by omega) (by omega))⟩
    · unfold far at hq; rw [e q (by omega) (by omega) (by omega)]
    · rw [e 1 (by omega) (by omega) (by omega)]; exact Int.le_refl _
    · rw [e 2 (by omega) (by omega) (by omega), e6]; omega
    · rw [e _ (by omega) (by omega) (by omega), e _ (by omega) (by omega) (by omega), e _ (by omega) (by omega) (by omega)]
      exact ⟨rfl, rfl, Iff.rfl, id⟩
    · rw [e 1 (by omega) (by omega) (by omega)] at b; omega
/-! a THING comes -/
theorem nwL_at {rc : Nat → Int} {t fr : Nat} : ∀ (n k : Nat) (m : Nat → Int) (q : Nat), fr ≤ k → nwL rc t fr n k m q = if 265 + 14 * t + (k - fr) ≤ q ∧ q < 265 + 14 * t + (k - fr) + n then rc (fr + (q - (265 + 14 * t))) else m q
  | 0, k, m, q, h => by
    unfold nwL; rw [if_neg (by omega)]
  | n + 1, k, m, q, h => by
    unfold nwL
    rw [nwL_at n (k + 1) _ q (by omega)]
    by_cases c : q = 265 + 14 * t + (k - fr)
    · subst c
      rw [if_neg (by omega), updI_s, if_pos (by omega)]
      congr 1; omega
    · rw [updI_n c]
      by_cases d : 265 + 14 * t + (k + 1 - fr) ≤ q ∧ q < 265 + 14 * t + (k + 1 - fr) + n
      · rw [if_pos d, if_pos (by omega)]
      · rw [if_neg d, if_neg (by omega)]
theorem namesM_at {m rc : Nat → Int} {t fr to q : Nat} : namesM m rc t fr to q = if 265 + 14 * t ≤ q ∧ q < 265 + 14 * t + (to - fr) then rc (fr + (q - (265 + 14 * t))) else updI m (261 + 14 * t) ((to : Int) - fr) q := by
  unfold namesM
  rw [nwL_at _ _ _ _ (Nat.le_refl _), Nat.sub_self, Nat.add_zero]
section TK
variable {m rc : Nat → Int} {N fr to : Nat} {o p e : Int}
theorem takesM_n (h7 : to - fr ≤ 7) {q : Nat} (h1 : ¬ q = 1) (h6 : ¬ q = 6) (hq : q < 258 + 14 * N ∨ 272 + 14 * N ≤ q) : takesM m rc N o fr to p e q = m q := by
  unfold takesM
  rw [updI_n (by omega), updI_n (by omega), updI_n (by omega), namesM_at, if_neg (by omega), updI_n (by omega), updI_n (by omega), updI_n (by omega), updI_n (by omega), updI_n (by omega), updI_n (by omega)]
theorem takesM_1 : takesM m rc N o fr to p e 1 = N + 1 := by
  unfold takesM
  rw [updI_n (by omega), updI_n (by omega), updI_n (by omega), namesM_at, if_neg (by omega), updI_n (by omega), updI_n (by omega), updI_n (by omega), updI_n (by omega), updI_n (by omega), updI_s]
theorem takesM_6 : takesM m rc N o fr to p e 6 = m 6 + 1 := by
  unfold takesM
  rw [updI_n (by omega), updI_n (by omega), updI_n (by omega), namesM_at, if_neg (by omega), updI_n (by omega), updI_n (by omega), updI_s]
theorem takesM_st : takesM m rc N o fr to p e (258 + 14 * N) = 0 := by
  unfold takesM
  rw [updI_n (by omega), updI_n (by omega), updI_n (by omega), namesM_at, if_neg (by omega), updI_n (by omega), updI_n (by omega), updI_n (by omega), updI_n (by omega), updI_s]
theorem takesM_ow : takesM m rc N o fr to p e (259 + 14 * N) = o := by
  unfold takesM
  rw [updI_n (by omega), updI_n (by omega), updI_n (by omega), namesM_at, if_neg (by omega), updI_n (by omega), updI_n (by omega), updI_n (by omega), updI_s]
theorem takesM_sp : takesM m rc N o fr to p e (260 + 14 * N) = m 6 + 1 := by
  unfold takesM
  rw [updI_n (by omega), updI_n (by omega), updI_n (by omega), namesM_at, if_neg (by omega), updI_n (by omega), updI_s]
theorem takesM_ln : takesM m rc N o fr to p e (261 + 14 * N) = (to : Int) - fr := by
  unfold takesM
  rw [updI_n (by omega), updI_n (by omega), updI_n (by omega), namesM_at, if_neg (by omega), updI_s]
theorem takesM_p : takesM m rc N o fr to p e (262 + 14 * N) = p := by
  unfold takesM
  rw [updI_n (by omega), updI_n (by omega), updI_s]
theorem takesM_e : takesM m rc N o fr to p e (263 + 14 * N) = e := by
  unfold takesM
  rw [updI_n (by omega), updI_s]
theorem takesM_pl : takesM m rc N o fr to p e (264 + 14 * N) = -5 := by
  unfold takesM
  rw [updI_s]
theorem takesM_nm (h7 : to - fr ≤ 7) {k : Nat} (hk : k < 7) : takesM m rc N o fr to p e (265 + 14 * N + k) = if k < to - fr then rc (fr + k) else m (265 + 14 * N + k) := by
  unfold takesM
  rw [updI_n (by omega), updI_n (by omega), updI_n (by omega), namesM_at]
  by_cases c : k < to - fr
  · rw [if_pos (by omega), if_pos c]
    congr 1; omega
  · rw [if_neg (by omega), if_neg c, updI_n (by omega), updI_n (by omega), updI_n (by omega), updI_n (by omega), updI_n (by omega), updI_n (by omega)]
end TK
theorem takesM_in {m rc : Nat → Int} (hM : ∀ q, InR (m q)) (hr : ∀ q, InR (rc q)) {N fr to : Nat} {o p e : Int} (h6 : InR (m 6 + 1)) (hN : N ≤ 89) (ho : InR o) (hp : InR p) (he : InR e) (h7 : to - fr ≤ 7) (hft : fr ≤ to) : ∀ q, InR (takesM m rc N o fr to p e q) := by
  intro q
  unfold takesM
  refine updM_in (updM_in (updM_in (fun q => ?_) hp) he) (by decide) q
  rw [namesM_at]
  split
  · exact hr _
  · exact updM_in (updM_in (updM_in (updM_in (updM_in (updM_in hM ⟨by omega, by omega⟩) (by decide)) ho) h6) h6) ⟨by omega, by omega⟩ q
theorem inv_take {m pool rc : Nat → Int} {B : Int} (h : Inv m pool B) {N fr to : Nat} {o : Int} {P E : Nat} (hN : m 1 = (N : Int)) (h9 : N < 90) (ho : 0 ≤ o ∧ o < m 0) (hn : 1 ≤ to - fr ∧ to - fr ≤ 7) (hft : fr ≤ to) (hr : ∀ q, InR (rc q)) (hl : ∀ j, fr ≤ j → j < to → isLt (rc j)) (hx : textT (m 8) pool P E) (hB : B ≤ 2000000000) : Inv (takesM m rc N o fr to P E) pool (B + 1) ∧ Ev m (takesM m rc N o fr to P E) := by
  obtain ⟨⟨hM, k0, k1, k2, k3, k4, k5, k7⟩, g2, g3, g4, g5, g6⟩ := h
  have e : ∀ q, ¬ q = 1 → ¬ q = 6 → (q < 258 + 14 * N ∨ 272 + 14 * N ≤ q) → takesM m rc N o fr to P E q = m q := fun q a b c => takesM_n hn.2 a b c
  have hx1 := hx.le g2.2.2
  have hx2 := hx.1
  have c : cnt (clsB (takesM m rc N o fr to P E)) (m 1).toNat = cnt (clsB m) (m 1).toNat := cnt_congr _ (fun q hq => by unfold clsB; rw [e _ (by omega) (by omega) (by omega)])
  refine ⟨⟨⟨takesM_in hM hr ⟨by omega, by omega⟩ (by omega) ⟨by omega, by omega⟩ ⟨by omega, by omega⟩ ⟨by omega, by omega⟩ hn.2 hft, ?_⟩, ?_⟩, ?_⟩
  · rw [e 0 (by omega) (by omega) (by omega), takesM_1, e 2 (by omega) (by omega) (by omega), e 3 (by omega) (by omega) (by omega), e 4 (by omega) (by omega) (by omega), e 5 (by omega) (by omega) (by omega)]
    refine ⟨k0, ⟨by omega, by omega⟩, k2, k3, k4, k5, fun u hu => ?_⟩
    by_cases q : u = N
    · subst q; rw [takesM_ln]; omega
    · rw [e _ (by omega) (by omega) (by omega)]; exact k7 u (by omega)
  · rw [e 0 (by omega) (by omega) (by omega), takesM_1, e 2 (by omega) (by omega) (by omega), e 4 (by omega) (by omega) (by omega), e 5 (by omega) (by omega) (by omega), takesM_6, e 8 (by omega) (by omega) (by omega), show ((N : Int) + 1).toNat = (m 1).toNat + 1 by omega]
    refine ⟨g2, fun u hu => ?_, ⟨?_, g4.2⟩, ⟨by omega, by omega⟩, fun u j hu hj => ?_⟩
    · by_cases q : u = N
      · subst q
        unfold thOk
        rw [takesM_st, takesM_ow, takesM_ln, takesM_sp, takesM_6, takesM_p, takesM_e, e 0 (by omega) (by omega) (by omega), e 8 (by omega) (by omega) (by omega)]
        exact ⟨⟨by omega, by omega⟩, ho, ⟨by omega, by omega, Int.le_refl _⟩, P, E, rfl, rfl, hx⟩
      · have z := g3 u (by omega)
        unfold thOk at z ⊢
        rw [e (258 + 14 * u) (by omega) (by omega) (by omega), e (259 + 14 * u) (by omega) (by omega) (by omega), e (260 + 14 * u) (by omega) (by omega) (by omega), takesM_6, e (261 + 14 * u) (by omega) (by omega) (by omega), e (262 + 14 * u) (by omega) (by omega) (by omega), e (263 + 14 * u) (by omega) (by omega) (by omega), e 0 (by omega) (by omega) (by omega), e 8 (by omega) (by omega) (by omega)]
        exact ⟨z.1, z.2.1, ⟨z.2.2.1.1, z.2.2.1.2.1, by omega⟩, z.2.2.2⟩
    · unfold cnt
      rw [c, show (m 1).toNat = N by omega, show clsB (takesM m rc N o fr to P E) N = false from decide_eq_false (by rw [takesM_st]; decide)]
      have := g4.1
      rw [show (m 1).toNat = N by omega] at this
      simp; omega
    · by_cases q : u = N
      · subst q
        rw [takesM_nm hn.2 hj]
        split
        · have := hl (fr + j) (by omega) (by omega)
          unfold isLt at this; omega
        · exact g6 u j hu hj
      · rw [e _ (by omega) (by omega) (by omega)]; exact g6 u j hu hj
  · refine ⟨fun q hq => ?_, ?_, ?_, fun u hu => ?_, fun u a b => ?_, fun u hu => Or.inl (e _ (by omega) (by omega) (by omega))⟩
    · unfold far at hq; rw [e q (by omega) (by omega) (by omega)]
    · rw [takesM_1]; omega
    · rw [e 2 (by omega) (by omega) (by omega), takesM_6]; omega
    · rw [e _ (by omega) (by omega) (by omega), e _ (by omega) (by omega) (by omega), e _ (by omega) (by omega) (by omega)]
      exact ⟨rfl, rfl, Iff.rfl, id⟩
    · rw [takesM_1] at b
      obtain rfl : u = N := by omega
      rw [takesM_st]; decide
/-! a fault is gathered -/
theorem inv_gath {m pool : Nat → Int} {B sink f : Int} (h : Inv m pool B) {t : Nat} (ht : t ≤ 89) (hs : InR sink) (hf : InR f) (h4 : m 4 ≤ 89) (h5 : m 5 ≤ 89) : (∀ q, InR (gathersM m sink f t q)) ∧ (∀ q, ¬ q = 4 → ¬ q = 5 → (q < 2328 ∨ 2928 ≤ q) → gathersM m sink f t q = m q) ∧ (gathersM m sink f t 4 = m 4 ∨ gathersM m sink f t 4 = m 4 + 1) ∧ (gathersM m sink f t 5 = m 5 ∨ gathersM m sink f t 5 = m 5 + 1) := by
  obtain ⟨⟨hM, k0, k1, k2, k3, k4, k5, k7⟩, g2, g3, g4, g5, g6⟩ := h
  have rt : InR (t : Int) := ⟨by omega, by omega⟩
  unfold gathersM
  split
  · refine ⟨updM_in (updM_in (updM_in hM hf) rt) ⟨by omega, by omega⟩, fun q a b c => ?_, Or.inl ?_, Or.inr ?_⟩
    · rw [updI_n b, updI_n (by omega), updI_n (by omega)]
    · rw [updI_n (by omega), updI_n (by omega), updI_n (by omega)]
    · rw [updI_s]
  · refine ⟨updM_in (updM_in (updM_in (updM_in hM hs) hf) rt) ⟨by omega, by omega⟩, fun q a b c => ?_, Or.inr ?_, Or.inl ?_⟩
    · rw [updI_n a, updI_n (by omega), updI_n (by omega), updI_n (by omega)]
    · rw [updI_s]
    · rw [updI_n (by omega), updI_n (by omega), updI_n (by omega), updI_n (by omega)]
/-! a THING is CLOSED: what its fault writes, its state, its place, THE LOG -/
theorem closedM_at {m : Nat → Int} {t : Nat} (h2 : 0 ≤ m 2 ∧ m 2 ≤ 89) (ht : t ≤ 89) : closedM m t 2 = m 2 + 1 ∧ closedM m t (258 + 14 * t) = 2 ∧ ∀ q, ¬ q = 2 → ¬ q = 258 + 14 * t → ¬ q = 264 + 14 * t → (q < 1518 ∨ 1608 ≤ q) → closedM m t q = m q := by
  unfold closedM
  refine ⟨updI_s, ?_, fun q a b c d => ?_⟩
  · rw [updI_n (by omega), updI_n (by omega), updI_n (by omega), updI_s]
  · rw [updI_n a, updI_n (by omega), updI_n c, updI_n b]
theorem closedM_in {m : Nat → Int} {t : Nat} (hM : ∀ q, InR (m q)) (h2 : 0 ≤ m 2 ∧ m 2 ≤ 89) (ht : t ≤ 89) : ∀ q, InR (closedM m t q) := by
  unfold closedM
  exact updM_in (updM_in (updM_in (updM_in hM (by decide)) (hM 2)) ⟨by omega, by omega⟩) ⟨by omega, by omega⟩
theorem inv_close {m pool : Nat → Int} {B sink f : Int} (h : Inv m pool B) {t : Nat} (ht : (t : Int) < m 1) (h1 : m (258 + 14 * t) = 1) (hs : InR sink) (hf : InR f) :
    Inv (closedM (if f = 0 then m else gathersM m sink f t) t) pool (B - 121) ∧ closedM (if f = 0 then m else gathersM m sink f t) t 2 = m 2 + 1 ∧ closedM (if f = 0 then m else gathersM m sink f t) t (258 + 14 * t) = 2 ∧
    ∀ q, ¬ q = 2 → ¬ q = 4 → ¬ q = 5 → ¬ q = 258 + 14 * t → ¬ q = 264 + 14 * t → (q < 1518 ∨ (1608 ≤ q ∧ q < 2328)) → closedM (if f = 0 then m else gathersM m sink f t) t q = m q := by
  obtain ⟨l1, l2, l3, l4⟩ := h.lt ht (by rw [h1]; decide)
  have hg : ∃ m2, m2 = (if f = 0 then m else gathersM m sink f t) ∧ (∀ q, InR (m2 q)) ∧ (∀ q, ¬ q = 4 → ¬ q = 5 → (q < 2328 ∨ 2928 ≤ q) → m2 q = m q) ∧ (m2 4 = m 4 ∨ m2 4 = m 4 + 1) ∧ (m2 5 = m 5 ∨ m2 5 = m 5 + 1) := by
    have k1 := h.1.2.2.1
    by_cases c : f = 0
    · exact ⟨m, by rw [if_pos c], h.1.1, fun _ _ _ _ => rfl, Or.inl rfl, Or.inl rfl⟩
    · obtain ⟨a, b, cc, d⟩ := inv_gath (sink := sink) (f := f) h (t := t) (by omega) hs hf l3 l4
      exact ⟨gathersM m sink f t, by rw [if_neg c], a, b, cc, d⟩
  obtain ⟨m2, e2, hM2, n2, n4, n5⟩ := hg
  rw [← e2]
  obtain ⟨⟨hM, k0, k1, k2, k3, k4, k5, k7⟩, g2, g3, g4, g5, g6⟩ := h
  have q2 : m2 2 = m 2 := n2 2 (by omega) (by omega) (by omega)
  have t9 : t ≤ 89 := by omega
  obtain ⟨c1, c2, c3⟩ := closedM_at (m := m2) (t := t) (by omega) t9
  have e : ∀ q, ¬ q = 2 → ¬ q = 4 → ¬ q = 5 → ¬ q = 258 + 14 * t → ¬ q = 264 + 14 * t → (q < 1518 ∨ (1608 ≤ q ∧ q < 2328)) → closedM m2 t q = m q := fun q a b c d x y => (c3 q a d x (by omega)).trans (n2 q b c (by omega))
  have z4 : closedM m2 t 4 = m2 4 := c3 4 (by omega) (by omega) (by omega) (by omega)
  have z5 : closedM m2 t 5 = m2 5 := c3 5 (by omega) (by omega) (by omega) (by omega)
  have cc := cnt_upd (p := clsB m) (p' := clsB (closedM m2 t)) (t := t) (decide_eq_false (by rw [h1]; decide)) (decide_eq_true c2) (M := 90) (fun q hq hq2 => by unfold clsB; rw [e _ (by omega) (by omega) (by omega) (by omega) (by omega) (by omega)]) (m 1).toNat (by omega)
  refine ⟨⟨⟨closedM_in hM2 (by omega) t9, ?_⟩, ?_⟩, by rw [c1, q2], c2, e⟩
  · rw [e 0 (by omega) (by omega) (by omega) (by omega) (by omega) (by omega), e 1 (by omega) (by omega) (by omega) (by omega) (by omega) (by omega), c1, e 3 (by omega) (by omega) (by omega) (by omega) (by omega) (by omega), z4, z5]
    exact ⟨k0, k1, ⟨by omega, by omega⟩, k3, ⟨by omega, by omega⟩, ⟨by omega, by omega⟩, fun u hu => by rw [e _ (by omega) (by omega) (by omega) (by omega) (by omega) (by omega)]; exact k7 u hu⟩
  · rw [e 0 (by omega) (by omega) (by omega) (by omega) (by omega) (by omega), e 1 (by omega) (by omega) (by omega) (by omega) (by omega) (by omega), c1, z4, z5, e 6 (by omega) (by omega) (by omega) (by omega) (by omega) (by omega), e 8 (by omega) (by omega) (by omega) (by omega) (by omega) (by omega), cc, if_pos (by omega)]
    refine ⟨g2, fun u hu => ?_, ⟨by omega, by omega, by omega⟩, ⟨by omega, by omega⟩, fun u j hu hj => by rw [e _ (by omega) (by omega) (by omega) (by omega) (by omega) (by omega)]; exact g6 u j hu hj⟩
    have z := g3 u hu
    unfold thOk at z ⊢
    rw [e (259 + 14 * u) (by omega) (by omega) (by omega) (by omega) (by omega) (by omega), e (260 + 14 * u) (by omega) (by omega) (by omega) (by omega) (by omega) (by omega), e 6 (by omega) (by omega) (by omega) (by omega) (by omega) (by omega), e (261 + 14 * u) (by omega) (by omega) (by omega) (by omega) (by omega) (by omega), e (262 + 14 * u) (by omega) (by omega) (by omega) (by omega) (by omega) (by omega), e (263 + 14 * u) (by omega) (by omega) (by omega) (by omega) (by omega) (by omega), e 0 (by omega) (by omega) (by omega) (by omega) (by omega) (by omega), e 8 (by omega) (by omega) (by omega) (by omega) (by omega) (by omega)]
    refine ⟨?_, z.2⟩
    by_cases q : u = t
    · subst q; rw [c2]; exact ⟨by decide, by decide⟩
    · rw [e _ (by omega) (by omega) (by omega) (by omega) (by omega) (by omega)]; exact z.1
theorem inv_cng {m pool : Nat → Int} {B : Int} (h : Inv m pool B) {t : Nat} (ht : (t : Int) < m 1) (h0 : m (258 + 14 * t) = 0) : Inv (updI m (258 + 14 * t) 1) pool B ∧ cnt (cngB (updI m (258 + 14 * t) 1)) (m 1).toNat = cnt (cngB m) (m 1).toNat + 1 := by
  obtain ⟨⟨hM, k0, k1, k2, k3, k4, k5, k7⟩, g2, g3, g4, g5, g6⟩ := h
  have e : ∀ q, ¬ q = 258 + 14 * t → updI m (258 + 14 * t) 1 q = m q := fun q a => updI_n a
  have c : cnt (clsB (updI m (258 + 14 * t) 1)) (m 1).toNat = cnt (clsB m) (m 1).toNat := cnt_congr _ (fun q hq => by
    unfold clsB
    by_cases g : q = t
    · subst g; rw [updI_s, h0]; decide
    · rw [e _ (by omega)])
  have c2 := cnt_upd (p := cngB m) (p' := cngB (updI m (258 + 14 * t) 1)) (t := t) (decide_eq_false (by rw [h0]; decide)) (decide_eq_true updI_s) (M := 90) (fun q _ hq => by unfold cngB; rw [e _ (by omega)]) (m 1).toNat (by omega)
  rw [if_pos (by omega)] at c2
  refine ⟨⟨⟨updM_in hM (by decide), ?_⟩, ?_⟩, c2⟩
  · rw [e 0 (by omega), e 1 (by omega), e 2 (by omega), e 3 (by omega), e 4 (by omega), e 5 (by omega)]
    exact ⟨k0, k1, k2, k3, k4, k5, fun u hu => by rw [e _ (by omega)]; exact k7 u hu⟩
  · rw [e 0 (by omega), e 1 (by omega), e 2 (by omega), e 4 (by omega), e 5 (by omega), e 6 (by omega), e 8 (by omega), c]
    refine ⟨g2, fun u hu => ?_, g4, g5, fun u j hu hj => by rw [e _ (by omega)]; exact g6 u j hu hj⟩
    have z := g3 u hu
    unfold thOk at z ⊢
    rw [e (259 + 14 * u) (by omega), e (260 + 14 * u) (by omega), e 6 (by omega), e (261 + 14 * u) (by omega), e (262 + 14 * u) (by omega), e (263 + 14 * u) (by omega), e 0 (by omega), e 8 (by omega)]
    refine ⟨?_, z.2⟩
    by_cases q : u = t
    · subst q; rw [updI_s]; exact ⟨by decide, by decide⟩
    · rw [e _ (by omega)]; exact z.1
end mg_77
section mg_78
/-! ===== every closing comes to its end ===== -/
theorem hbL_held {m rc : Nat → Int} {fr to : Nat} : ∀ n t : Nat, 0 ≤ hbL m rc fr to n t → m (258 + 14 * (hbL m rc fr to n t).toNat) = 0 ∧ hbL m rc fr to n t < t + n
  | 0, t, h => by unfold hbL at h; omega
  | n + 1, t, h => by
    unfold hbL at h ⊢
    split
    · rename_i c
      have := c.1
      simp only [heldB, decide_eq_true_eq] at this
      rw [Int.toNat_natCast]
      exact ⟨this, by omega⟩
    · rename_i c
      rw [if_neg c] at h
      have := hbL_held n (t + 1) h
      exact ⟨this.1, by omega⟩
def poolOk (pool : Nat → Int) : Prop := ∀ q, 0 ≤ pool q ∧ pool q ≤ 127
theorem poolOk.r {pool : Nat → Int} (h : poolOk pool) (q : Nat) : InR (pool q) := by have := h q; exact ⟨by omega, by omega⟩
def CX (pool : Nat → Int) (sink : Int) (n : Nat) : Prop := ∀ (m : Nat → Int) (t : Nat) (B : Int), Inv m pool B → B + 130 * n ≤ 2000000000 → 91 ≤ n + cnt (cngB m) (m 1).toNat → (t : Int) < m 1 → m (258 + 14 * t) = 0 →
  ∃ m', closesR pool sink n m t m' ∧ Inv m' pool B ∧ Ev m m' ∧ m 2 < m' 2 ∧ m' (258 + 14 * t) = 2
section EX
variable {pool : Nat → Int} {sink : Int} {n : Nat} {m : Nat → Int} {B s2 : Int} {k p e : Nat}
theorem stepT_ex (hPo : poolOk pool) (hC : CX pool sink n) (h : Inv m pool B) (hB : B + 130 * n + 2 ≤ 2000000000) (hn : 91 ≤ n + cnt (cngB m) (m 1).toNat) (hs : InR s2) (hT : stepT pool (stsC pool k) p e) (he : ¬ dgP (pool e)) (he2 : e ≤ p + 121) (hp : (e : Int) ≤ m 8) :
    ∃ f m', stpR pool (closesR pool sink n) m p s2 f m' ∧ Inv m' pool (B + 1) ∧ Ev m m' ∧ InR f := by
  have hlt := stepT_lt hT
  have hok := h.1
  have h8 := h.2.1.2.2
  obtain ⟨hM, k0, k1, k2, k3, k4, k5, k7⟩ := id hok
  have h1 : Inv m pool (B + 1) := h.up (by omega)
  rcases hT with ⟨hk, hc, hq, hv⟩ | ⟨hk, hv⟩ | ⟨hk, q, hq, hx⟩ | ⟨hk, hq⟩ | ⟨hk, q, hq, hq2, hv⟩ | ⟨hk, hc, rfl⟩ | ⟨hk, rfl⟩
  · obtain ⟨d1, d2⟩ := sgn_dig hv he
    exact ⟨0, _, ⟨hok, hs, by omega, Or.inl ⟨hk, hc, rfl, 20, d1, rfl⟩⟩, h1.out (wrap_r _) (by omega) (by omega), Ev.out (by unfold far; omega) (by omega) (by omega) k1.2 (Or.inl (by omega)), by decide⟩
  · obtain ⟨d1, d2⟩ := num_dig hv (by decide) he
    exact ⟨_, m, ⟨hok, hs, by omega, Or.inr (Or.inl ⟨hk, rfl, 20, d1, rfl⟩)⟩, h1, Ev.rf, ⟨by omega, by omega⟩⟩
  · have hne := nam_end hq
    obtain ⟨q1, q2, q3, q4⟩ := id hq
    have hft : ∃ P E : Nat, ftF pool 130 q = ((P : Int), (E : Int)) ∧ textT (m 8) pool P E ∧ (pool q = 123 → brStop pool 130 (q + 1) 1) := by
      rcases hx with ⟨rfl, hx⟩ | ⟨hx, r, hr, hr2, hr3, rfl⟩
      · exact ⟨e, e, by unfold ftF; rw [if_neg hx], ⟨Nat.le_refl _, by omega, Or.inl ⟨rfl, by omega⟩⟩, fun z => absurd z hx⟩
      · obtain ⟨b1, b2⟩ := (stsC_skip k _ _ hr).br (n := 130) hr3 (by omega)
        exact ⟨q + 1, r, by unfold ftF; rw [if_pos hx, b1]; congr 1; omega, ⟨hr2, by omega, Or.inr ⟨by omega, k, hr⟩⟩, fun _ => b2⟩
    obtain ⟨P, E, hf, ht, hb⟩ := hft
    refine ⟨takenV m pool (m 1).toNat (p + 1) q s2, takenM m pool (m 1).toNat 130 (p + 1) q s2, ⟨hok, hs, by omega, Or.inr (Or.inr (Or.inl ⟨hk, 130, by omega, ?_, ?_, ?_⟩))⟩, ?_⟩
    · rw [hne]; exact hb
    · rw [hne]
    · rw [hne]
    · have hr : InR (takenV m pool (m 1).toNat (p + 1) q s2) := by unfold takenV; split <;> (try split) <;> (try split) <;> decide
      by_cases z : takenV m pool (m 1).toNat (p + 1) q s2 = 0
      · have z2 := z
        unfold takenV at z2
        split at z2
        · rename_i ho
          split at z2
          · exact absurd z2 (by decide)
          · split at z2
            · exact absurd z2 (by decide)
            · rename_i h9
              have y := inv_take (rc := pool) h (N := (m 1).toNat) (fr := p + 1) (to := q) (o := s2) (P := P) (E := E) (by omega) (by omega) ⟨ho.1, by omega⟩ (by omega) (by omega) hPo.r q3 ht (by omega)
              unfold takenM
              rw [if_pos z, hf]
              exact ⟨y.1, y.2, hr⟩
        · exact absurd z2 (by decide)
      · unfold takenM
        rw [if_neg z]
        exact ⟨h1, Ev.rf, hr⟩
  · have hne := nam_end hq
    by_cases z : hbL m pool (p + 1) e (m 1).toNat 0 < 0
    · exact ⟨104, m, ⟨hok, hs, by omega, Or.inr (Or.inr (Or.inr (Or.inl ⟨hk, Or.inl ⟨by rw [hne]; exact z, rfl, rfl⟩⟩)))⟩, h1, Ev.rf, by decide⟩
    · obtain ⟨y1, y2⟩ := hbL_held (m := m) (rc := pool) (fr := p + 1) (to := e) (m 1).toNat 0 (by omega)
      obtain ⟨m', c1, c2, c3, -, -⟩ := hC m _ B h (by omega) hn (by omega) y1
      exact ⟨0, m', ⟨hok, hs, by omega, Or.inr (Or.inr (Or.inr (Or.inl ⟨hk, Or.inr ⟨by rw [hne]; omega, rfl, by rw [hne]; exact c1⟩⟩)))⟩, c2.up (by omega), c3, by decide⟩
  · have hne := nam_end hq
    have q1 := hq.1
    obtain ⟨d1, d2⟩ := num_dig hv (by decide) he
    have hnr : InR (numAt pool 20 (q + 1)) := ⟨by omega, by omega⟩
    by_cases z : hbL m pool (p + 1) q (m 1).toNat 0 < 0
    · exact ⟨104, m, ⟨hok, hs, by omega, Or.inr (Or.inr (Or.inr (Or.inr (Or.inl ⟨hk, 20, by rw [hne]; exact d1, by rw [hne]; exact hnr, Or.inl ⟨by rw [hne]; exact z, rfl, rfl⟩⟩))))⟩, h1, Ev.rf, by decide⟩
    · by_cases ho : openP m (numAt pool 20 (q + 1))
      · obtain ⟨y1, y2⟩ := hbL_held (m := m) (rc := pool) (fr := p + 1) (to := q) (m 1).toNat 0 (by omega)
        have y := inv_move h (t := (hbL m pool (p + 1) q (m 1).toNat 0).toNat) (s := numAt pool 20 (q + 1)) (by omega) ⟨ho.1, by omega⟩ (by omega)
        exact ⟨0, _, ⟨hok, hs, by omega, Or.inr (Or.inr (Or.inr (Or.inr (Or.inl ⟨hk, 20, by rw [hne]; exact d1, by rw [hne]; exact hnr, Or.inr (Or.inr ⟨by rw [hne]; omega, by rw [hne]; exact ho, rfl, by rw [hne]⟩)⟩))))⟩, y.1, y.2, by decide⟩
      · exact ⟨105, m, ⟨hok, hs, by omega, Or.inr (Or.inr (Or.inr (Or.inr (Or.inl ⟨hk, 20, by rw [hne]; exact d1, by rw [hne]; exact hnr, Or.inr (Or.inl ⟨by rw [hne]; omega, by rw [hne]; exact ho, rfl, rfl⟩)⟩))))⟩, h1, Ev.rf, by decide⟩
  · refine ⟨_, _, ⟨hok, hs, by omega, Or.inr (Or.inr (Or.inr (Or.inr (Or.inr (Or.inl ⟨hk, hc, rfl, rfl⟩)))))⟩, ?_⟩
    have hc' : 48 ≤ pool (p + 1) ∧ pool (p + 1) ≤ 57 := hc
    by_cases z : pool (p + 1) - 48 ≤ m 3 - 1 ∧ m (1610 + 72 * (pool (p + 1) - 48)).toNat = 0
    · rw [if_pos z, if_pos z]
      exact ⟨h1.out (by decide) (by omega) (by omega), Ev.out (fun w => by
        unfold far at w
        rcases w with w | w | w | w | w | ⟨-, -, w⟩
        · omega
        · omega
        · omega
        · omega
        · omega
        · exact w (pool (p + 1) - 48).toNat (by omega)) (by omega) (by omega) k1.2 (Or.inr rfl), by decide⟩
    · rw [if_neg z, if_neg z]
      exact ⟨h1, Ev.rf, by decide⟩
  · exact ⟨0, m, ⟨hok, hs, by omega, Or.inr (Or.inr (Or.inr (Or.inr (Or.inr (Or.inr ⟨by rw [hk]; decide, rfl, rfl⟩)))))⟩, h1, Ev.rf, by decide⟩
theorem stepQ_ex (hPo : poolOk pool) (hC : CX pool sink n) (h : Inv m pool B) (hB : B + 130 * n + 2 ≤ 2000000000) (hn : 91 ≤ n + cnt (cngB m) (m 1).toNat) (hs : InR s2) (hT : stepQ pool (stsC pool k) p e) (he : ¬ dgP (pool e)) (he2 : e ≤ p + 121) (hp : (e : Int) ≤ m 8) :
    ∃ f m', doesR pool (closesR pool sink n) m p s2 f m' ∧ Inv m' pool (B + 1) ∧ Ev m m' ∧ InR f := by
  rcases hT with hT | ⟨hk, hc, hq, q, hv, hq2, hT⟩
  · obtain ⟨f, m', a, b, c, d⟩ := stepT_ex hPo hC h hB hn hs hT he he2 hp
    exact ⟨f, m', Or.inl a, b, c, d⟩
  · have h8 := h.2.1.2.2
    have hl := sgnS_lt hv
    have hl2 := stepT_lt hT
    have nd : ¬ dgP (pool q) := by rw [hq2]; decide
    obtain ⟨d1, d2⟩ := sgn_dig hv nd
    have hnc : ∀ j, p + 3 ≤ j → j < q → ¬ pool j = 58 := by
      intro j a b
      rcases hv with ⟨v0, v1, v2, v3⟩ | ⟨v1, v2, v3⟩
      · by_cases z : j = p + 3
        · subst z; rw [v0]; decide
        · have := v3 j (by omega) b
          unfold dgP at this; omega
      · have := v3 j a b
        unfold dgP at this; omega
    have hnr : InR (numAt pool 20 (p + 3)) := ⟨by omega, by omega⟩
    by_cases z : m (10 + pool (p + 1) - 48).toNat < numAt pool 20 (p + 3)
    · obtain ⟨f, m', a, b, c, d⟩ := stepT_ex hPo hC h hB hn hs hT he (by omega) hp
      exact ⟨f, m', Or.inr ⟨hk, h.1, hs, by omega, hc, 20, q, d1, by omega, hq2, hnc, hnr, Or.inl ⟨z, a⟩⟩, b, c, d⟩
    · exact ⟨0, m, Or.inr ⟨hk, h.1, hs, by omega, hc, 20, q, d1, by omega, hq2, hnc, hnr, Or.inr ⟨z, rfl, rfl⟩⟩, h.up (by omega), Ev.rf, by decide⟩
end EX
theorem loop_ex {pool : Nat → Int} {sink : Int} {n : Nat} (hPo : poolOk pool) (hC : CX pool sink n) {t P E : Nat} (hPE : E ≤ P + 120) : ∀ (k : Nat) (m : Nat → Int) (B : Int) (p : Nat), P ≤ p → (E : Int) ≤ m 8 → Inv m pool B → B + 130 * n + 2 + (E - p : Nat) ≤ 2000000000 → 91 ≤ n + cnt (cngB m) (m 1).toNat → stsC pool k p E →
    ∃ f m', loopR pool (doesR pool (closesR pool sink n)) t E k m p f m' ∧ Inv m' pool (B + (E - p : Nat)) ∧ Ev m m' ∧ InR f
  | 0, m, B, p, _, _, _, _, _, hT => absurd hT id
  | k + 1, m, B, p, hP, hE, h, hB, hn, hT => by
    obtain ⟨e, t1, t2, t3⟩ := hT
    have hlt := stepQ_lt t1
    have heE : e ≤ E := by rcases t3 with t3 | ⟨t3, _⟩ <;> omega
    have hbe := (stepQ_skip (fun a b => stsC_skip k a b) t1).beh (E := E) heE (by rcases t3 with t3 | ⟨_, t3, _⟩; exact Or.inl t3; exact Or.inr t3)
    obtain ⟨f, m1, a, b, c, d⟩ := stepQ_ex (s2 := m (259 + 14 * t)) hPo hC h (by omega) hn (h.1.1 _) t1 (endC_nd t2) (by omega) (by omega)
    by_cases z : f = 0
    · subst z
      rcases t3 with rfl | ⟨t3, t4, t5⟩
      · refine ⟨0, m1, Or.inr ⟨by omega, 0, m1, a, d, Or.inr ⟨rfl, ?_⟩⟩, b.up (by omega), c, by decide⟩
        rw [hbe]
        cases k with
        | zero => exact ⟨by omega, rfl, rfl⟩
        | succ k => exact Or.inl ⟨by omega, rfl, rfl⟩
      · obtain ⟨f2, m2, a2, b2, c2, d2⟩ := loop_ex hPo hC hPE k m1 (B + 1) (e + 1) (by omega) (by rw [c.1 8 (by unfold far; omega)]; exact hE) b (by omega) (by rw [c.cng h.1.2.2.1.1]; exact hn) t5
        refine ⟨f2, m2, Or.inr ⟨by omega, 0, m1, a, d, Or.inr ⟨rfl, ?_⟩⟩, b2.up (by omega), c.tr c2, d2⟩
        rw [hbe]
        exact a2
    · exact ⟨f, m1, Or.inr ⟨by omega, f, m1, a, d, Or.inl ⟨z, rfl, rfl⟩⟩, b.up (by omega), c, d⟩
theorem cnt_cl_cng {m : Nat → Int} {N t : Nat} (h : t < N) (h0 : m (258 + 14 * t) = 0) : cnt (cngB m) N < N := cnt_lt (decide_eq_false (by rw [h0]; decide)) N h
theorem closes_ex {pool : Nat → Int} (hPo : poolOk pool) {sink : Int} (hs : InR sink) : ∀ n : Nat, CX pool sink n
  | 0 => fun m t B h hB hn ht h0 => by
    have k1 := h.1.2.2.1
    have := cnt_cl_cng (m := m) (N := (m 1).toNat) (t := t) (by omega) h0
    omega
  | n + 1 => fun m t B h hB hn ht h0 => by
    have k1 := h.1.2.2.1
    obtain ⟨i1, i2⟩ := inv_cng h ht h0
    have q : ∀ q, ¬ q = 258 + 14 * t → updI m (258 + 14 * t) 1 q = m q := fun q a => updI_n a
    obtain ⟨z1, z2, z3, P, E, e1, e2, hx⟩ := h.2.2.1 t ht
    have x1 := hx.le h.2.1.2.2
    obtain ⟨x2, x3, x4⟩ := hx
    have hl : ∃ k f m2, loopR pool (doesR pool (closesR pool sink n)) t E k (updI m (258 + 14 * t) 1) P f m2 ∧ Inv m2 pool (B + 120) ∧ Ev (updI m (258 + 14 * t) 1) m2 ∧ InR f := by
      rcases x4 with ⟨rfl, -⟩ | ⟨x5, k, x4⟩
      · exact ⟨0, 0, _, ⟨Nat.le_refl _, rfl, rfl⟩, i1.up (by omega), Ev.rf, by decide⟩
      · obtain ⟨f, m2, a, b, c, d⟩ := loop_ex hPo (closes_ex hPo hs n) (t := t) (P := P) x3 k _ B P (Nat.le_refl _) (by rw [q 8 (by omega)]; omega) i1 (by omega) (by rw [q 1 (by omega), i2]; omega) x4
        exact ⟨k, f, m2, a, b.up (by omega), c, d⟩
    obtain ⟨k, f, m2, l1, l2, l3, l4⟩ := hl
    obtain ⟨v1, v2, v3, v4, v5, v6⟩ := l3
    rw [q 1 (by omega)] at v2
    rw [q 2 (by omega), q 6 (by omega)] at v3
    have ht2 : (t : Int) < m2 1 := by omega
    have hc2 : m2 (258 + 14 * t) = 1 := ((v4 t (by rw [q 1 (by omega)]; exact ht)).2.2.1).mpr updI_s
    obtain ⟨g1, g2, g3, g4⟩ := inv_close l2 ht2 hc2 hs l4
    obtain ⟨lt1, lt2, lt3, lt4⟩ := l2.lt ht2 (by rw [hc2]; decide)
    refine ⟨_, ⟨h.1, by omega, Or.inr ⟨h0, P, E, k, f, m2, e1, e2, by omega, by omega, l1, l2.1, l4, by omega, by omega, by omega, rfl⟩⟩, g1.up (by omega), ⟨?_, ?_, ?_, ?_, ?_, ?_⟩, by omega, g3⟩
    · intro c hc
      rw [g4 c (by unfold far at hc; omega) (by unfold far at hc; omega) (by unfold far at hc; omega) (by unfold far at hc; omega) (by unfold far at hc; omega) (by unfold far at hc; omega), v1 c hc, q c (by unfold far at hc; omega)]
    · rw [g4 1 (by omega) (by omega) (by omega) (by omega) (by omega) (by omega)]; exact v2
    · rw [g4 6 (by omega) (by omega) (by omega) (by omega) (by omega) (by omega)]; omega
    · intro u hu
      have w := v4 u (by rw [q 1 (by omega)]; exact hu)
      rw [q _ (by omega), q _ (by omega)] at w
      rw [g4 (262 + 14 * u) (by omega) (by omega) (by omega) (by omega) (by omega) (by omega), g4 (263 + 14 * u) (by omega) (by omega) (by omega) (by omega) (by omega) (by omega)]
      refine ⟨w.1, w.2.1, ?_⟩
      by_cases c : u = t
      · subst c
        rw [g3, h0]
        exact ⟨by decide, fun z => absurd z (by decide)⟩
      · rw [q (258 + 14 * u) (by omega)] at w
        rw [g4 (258 + 14 * u) (by omega) (by omega) (by omega) (by omega) (by omega) (by omega)]
        exact w.2.2
    · intro u a b
      rw [g4 1 (by omega) (by omega) (by omega) (by omega) (by omega) (by omega)] at b
      have k12 := l2.1.2.2.1
      rw [g4 (258 + 14 * u) (by omega) (by omega) (by omega) (by omega) (by omega) (by omega)]
      exact v5 u (by rw [q 1 (by omega)]; exact a) b
    · intro u hu
      rw [g4 _ (by omega) (by omega) (by omega) (by omega) (by omega) (by omega)]
      have := v6 u hu
      rw [q _ (by omega)] at this
      exact this
end mg_78
section mg_79
/-! ===== every shutting comes to its end ===== -/
theorem loT_p {m : Nat → Int} {s : Int} : ∀ (n t : Nat) (r : Int × Int), (r.1 = -5 ∨ ∃ u : Nat, r.1 = u ∧ u < t ∧ m (258 + 14 * u) = 0 ∧ m (259 + 14 * u) = s) → ((loT m s n t r).1 = -5 ∨ ∃ u : Nat, (loT m s n t r).1 = u ∧ u < t + n ∧ m (258 + 14 * u) = 0 ∧ m (259 + 14 * u) = s)
  | 0, t, r, h => h
  | n + 1, t, r, h => by
    unfold loT
    rw [show t + (n + 1) = t + 1 + n by omega]
    refine loT_p n (t + 1) _ ?_
    split
    · rename_i c
      exact Or.inr ⟨t, rfl, by omega, by have := c.1; simpa [heldB] using this, c.2.1⟩
    · rcases h with h | ⟨u, a, b, c⟩
      · exact Or.inl h
      · exact Or.inr ⟨u, a, by omega, c⟩
theorem loS_p {m : Nat → Int} {s : Int} {N : Nat} : ∀ (n c : Nat) (r : Int × Int), 1 ≤ c → (r.1 = -5 ∨ (∃ u : Nat, r.1 = u ∧ u < N ∧ m (258 + 14 * u) = 0 ∧ m (259 + 14 * u) = s) ∨ ∃ u : Nat, r.1 = 100 + (u : Int) ∧ 1 ≤ u ∧ u < c ∧ m (18 + 4 * u) = 0 ∧ m (19 + 4 * u) = s) →
    ((loS m s n c r).1 = -5 ∨ (∃ u : Nat, (loS m s n c r).1 = u ∧ u < N ∧ m (258 + 14 * u) = 0 ∧ m (259 + 14 * u) = s) ∨ ∃ u : Nat, (loS m s n c r).1 = 100 + (u : Int) ∧ 1 ≤ u ∧ u < c + n ∧ m (18 + 4 * u) = 0 ∧ m (19 + 4 * u) = s)
  | 0, c, r, h1, h => h
  | n + 1, c, r, h1, h => by
    unfold loS
    rw [show c + (n + 1) = c + 1 + n by omega]
    refine loS_p n (c + 1) _ (by omega) ?_
    split
    · rename_i g
      exact Or.inr (Or.inr ⟨c, rfl, h1, by omega, by have := g.1; simpa [openB] using this, g.2.1⟩)
    · rcases h with h | h | ⟨u, a, b, d, e⟩
      · exact Or.inl h
      · exact Or.inr (Or.inl h)
      · exact Or.inr (Or.inr ⟨u, a, b, by omega, e⟩)
theorem lastM_p (m : Nat → Int) (s : Int) (N C : Nat) (hC : 1 ≤ C) : lastM m s N C = -5 ∨ (∃ u : Nat, lastM m s N C = u ∧ u < N ∧ m (258 + 14 * u) = 0 ∧ m (259 + 14 * u) = s) ∨ ∃ u : Nat, lastM m s N C = 100 + (u : Int) ∧ 1 ≤ u ∧ u < C ∧ m (18 + 4 * u) = 0 ∧ m (19 + 4 * u) = s := by
  have h := loS_p (m := m) (s := s) (N := N) (C - 1) 1 (loT m s N 0 (-5, -1)) (Nat.le_refl _) (by
    rcases loT_p (m := m) (s := s) N 0 (-5, -1) (Or.inl rfl) with h | ⟨u, a, b, c⟩
    · exact Or.inl h
    · exact Or.inr (Or.inl ⟨u, a, by omega, c⟩))
  rw [show 1 + (C - 1) = C by omega] at h
  exact h
theorem loT_up {m : Nat → Int} {s : Int} : ∀ (n t : Nat) (r : Int × Int), 0 ≤ r.1 → 0 ≤ (loT m s n t r).1
  | 0, _, _, h => h
  | n + 1, t, r, h => by
    unfold loT
    refine loT_up n (t + 1) _ ?_
    split
    · show (0 : Int) ≤ t; omega
    · exact h
theorem loS_up {m : Nat → Int} {s : Int} : ∀ (n c : Nat) (r : Int × Int), 0 ≤ r.1 → 0 ≤ (loS m s n c r).1
  | 0, _, _, h => h
  | n + 1, c, r, h => by
    unfold loS
    refine loS_up n (c + 1) _ ?_
    split
    · show (0 : Int) ≤ 100 + c; omega
    · exact h
theorem loT_no {m : Nat → Int} {s : Int} : ∀ (n t : Nat), (loT m s n t (-5, -1)).1 < 0 → loT m s n t (-5, -1) = (-5, -1) ∧ ∀ u, t ≤ u → u < t + n → ¬ (m (258 + 14 * u) = 0 ∧ m (259 + 14 * u) = s ∧ -1 ≤ m (260 + 14 * u))
  | 0, t, _ => ⟨rfl, fun u a b => by omega⟩
  | n + 1, t, h => by
    unfold loT at h ⊢
    split at h
    · rename_i c
      have := loT_up (m := m) (s := s) n (t + 1) ((t : Int), m (260 + 14 * t)) (by show (0 : Int) ≤ t; omega)
      omega
    · rename_i c
      rw [if_neg c]
      obtain ⟨a, b⟩ := loT_no n (t + 1) h
      refine ⟨a, fun u x y => ?_⟩
      by_cases e : u = t
      · subst e
        exact fun z => c ⟨by simp [heldB, z.1], z.2.1, z.2.2⟩
      · exact b u (by omega) (by omega)
theorem loS_no {m : Nat → Int} {s : Int} : ∀ (n c : Nat), (loS m s n c (-5, -1)).1 < 0 → ∀ u, c ≤ u → u < c + n → ¬ (m (18 + 4 * u) = 0 ∧ m (19 + 4 * u) = s ∧ -1 ≤ m (20 + 4 * u))
  | 0, c, _ => fun u a b => by omega
  | n + 1, c, h => by
    unfold loS at h
    split at h
    · rename_i g
      have := loS_up (m := m) (s := s) n (c + 1) (100 + (c : Int), m (20 + 4 * c)) (by show (0 : Int) ≤ 100 + c; omega)
      omega
    · rename_i g
      have b := loS_no n (c + 1) h
      intro u x y
      by_cases e : u = c
      · subst e
        exact fun z => g ⟨by simp [openB, z.1], z.2.1, z.2.2⟩
      · exact b u (by omega) (by omega)
theorem lastM_no {m : Nat → Int} {s : Int} {N C : Nat} (hC : 1 ≤ C) (h : lastM m s N C < 0) : (∀ u, u < N → ¬ (m (258 + 14 * u) = 0 ∧ m (259 + 14 * u) = s ∧ -1 ≤ m (260 + 14 * u))) ∧ ∀ u, 1 ≤ u → u < C → ¬ (m (18 + 4 * u) = 0 ∧ m (19 + 4 * u) = s ∧ -1 ≤ m (20 + 4 * u)) := by
  unfold lastM at h
  by_cases c : (loT m s N 0 (-5, -1)).1 < 0
  · obtain ⟨a, b⟩ := loT_no N 0 c
    rw [a] at h
    have d := loS_no (C - 1) 1 h
    exact ⟨fun u hu => b u (by omega) (by omega), fun u h1 h2 => d u h1 (by omega)⟩
  · have := loS_up (m := m) (s := s) (C - 1) 1 _ (show 0 ≤ (loT m s N 0 (-5, -1)).1 by omega)
    omega
/-! scopes -/
def NC (m : Nat → Int) : Prop := ∀ t : Nat, (t : Int) < m 1 → ¬ m (258 + 14 * t) = 1
theorem NC.cnt {m : Nat → Int} (h : NC m) (h1 : 0 ≤ m 1) : cnt (cngB m) (m 1).toNat = 0 := by
  have := cnt_none (p := cngB m) (N := 0) (m 1).toNat (fun j a b => decide_eq_false (h j (by omega)))
  rw [Nat.zero_add] at this
  exact this
def ScI (m : Nat → Int) : Prop := m 19 = -5 ∧ ¬ m 18 = 2 ∧ ∀ c : Nat, (c : Int) < m 0 → (0 ≤ m (18 + 4 * c) ∧ m (18 + 4 * c) ≤ 2) ∧ (1 ≤ c → (0 ≤ m (19 + 4 * c) ∧ m (19 + 4 * c) < c) ∧ (0 ≤ m (20 + 4 * c) ∧ m (20 + 4 * c) ≤ m 6) ∧ (¬ m (18 + 4 * c) = 2 → ¬ m (18 + 4 * (m (19 + 4 * c)).toNat) = 2))
def fat (q : Nat) : Prop := q = 0 ∨ q = 3 ∨ q = 7 ∨ q = 8 ∨ (18 ≤ q ∧ q < 258 ∧ ∀ c : Nat, q ≠ 18 + 4 * c) ∨ (1608 ≤ q ∧ q < 2328 ∧ ∀ t : Nat, q ≠ 1614 + 72 * t)
theorem fat_far {q : Nat} (h : fat q) : far q := by
  rcases h with h | h | h | h | h | h
  · exact Or.inl h
  · exact Or.inr (Or.inl h)
  · exact Or.inr (Or.inr (Or.inl h))
  · exact Or.inr (Or.inr (Or.inr (Or.inl h)))
  · exact Or.inr (Or.inr (Or.inr (Or.inr (Or.inl ⟨h.1, h.2.1⟩))))
  · exact Or.inr (Or.inr (Or.inr (Or.inr (Or.inr h))))
/-- what may have happened while scopes were shut -/
def Es (m m' : Nat → Int) : Prop :=
  (∀ q, fat q → m' q = m q) ∧ (∀ c : Nat, c < 60 → m' (18 + 4 * c) = m (18 + 4 * c) ∨ (m (18 + 4 * c) = 0 ∧ m' (18 + 4 * c) = 2 ∧ 1 ≤ c)) ∧ (m 1 ≤ m' 1 ∧ m 2 ≤ m' 2 ∧ m 6 ≤ m' 6) ∧ (NC m → NC m') ∧ (∀ t : Nat, t ≤ 9 → m' (1614 + 72 * t) = m (1614 + 72 * t) ∨ m' (1614 + 72 * t) = 1)
theorem Es.rf {m : Nat → Int} : Es m m := ⟨fun _ _ => rfl, fun _ _ => Or.inl rfl, ⟨Int.le_refl _, Int.le_refl _, Int.le_refl _⟩, id, fun _ _ => Or.inl rfl⟩
theorem Es.tr {a b c : Nat → Int} (h : Es a b) (k : Es b c) : Es a c := by
  obtain ⟨h1, h2, h3, h4, h5⟩ := h
  obtain ⟨k1, k2, k3, k4, k5⟩ := k
  refine ⟨fun q hq => (k1 q hq).trans (h1 q hq), fun u hu => ?_, by omega, fun z => k4 (h4 z), fun t ht => ?_⟩
  · rcases k2 u hu with w | w
    · rw [w]; exact h2 u hu
    · rcases h2 u hu with z | z
      · exact Or.inr ⟨by rw [← z]; exact w.1, w.2⟩
      · exact Or.inr ⟨z.1, w.2⟩
  · rcases k5 t ht with w | w
    · rw [w]; exact h5 t ht
    · exact Or.inr w
theorem Ev.es {m m' : Nat → Int} (h : Ev m m') : Es m m' := by
  obtain ⟨h1, h2, h3, h4, h5, h6⟩ := h
  refine ⟨fun q hq => h1 q (fat_far hq), fun c hc => Or.inl (h1 _ (by unfold far; omega)), by omega, fun z t ht => ?_, h6⟩
  by_cases g : (t : Int) < m 1
  · exact fun w => z t g ((h4 t g).2.2.1.mp w)
  · exact h5 t (by omega) ht
theorem Ev.sc {m m' : Nat → Int} (h : Ev m m') (k : ScI m) (h0 : m 0 ≤ 60) : ScI m' := by
  obtain ⟨k1, k2, k3⟩ := k
  have e : ∀ q, 18 ≤ q → q < 258 → m' q = m q := fun q a b => h.1 q (by unfold far; omega)
  have e0 : m' 0 = m 0 := h.1 0 (by unfold far; omega)
  have e6 := h.2.2.1.2
  refine ⟨by rw [e 19 (by omega) (by omega)]; exact k1, by rw [e 18 (by omega) (by omega)]; exact k2, fun c hc => ?_⟩
  rw [e0] at hc
  obtain ⟨a, b⟩ := k3 c hc
  rw [e (18 + 4 * c) (by omega) (by omega), e (19 + 4 * c) (by omega) (by omega), e (20 + 4 * c) (by omega) (by omega)]
  refine ⟨a, fun h1 => ?_⟩
  obtain ⟨b1, b2, b3⟩ := b h1
  rw [e (18 + 4 * (m (19 + 4 * c)).toNat) (by omega) (by omega)]
  exact ⟨b1, ⟨b2.1, by omega⟩, b3⟩
theorem openP_nat {m : Nat → Int} {s : Nat} : openP m (s : Int) ↔ ((s : Int) < m 0 ∧ m (18 + 4 * s) = 0) := by
  unfold openP
  rw [show (18 + 4 * (s : Int)).toNat = 18 + 4 * s by omega]
  constructor
  · intro h; exact ⟨by omega, h.2.2⟩
  · intro h; exact ⟨by omega, by omega, h.2⟩
/-- a scope's state changes -/
theorem Inv.scope {m pool : Nat → Int} {B : Int} (h : Inv m pool B) {s : Nat} (hs : s < 60) {v : Int} (hv : InR v) : Inv (updI m (18 + 4 * s) v) pool B := h.out hv (by omega) (by omega)
def SX (pool : Nat → Int) (sink : Int) (n : Nat) : Prop := ∀ (m : Nat → Int) (s : Nat) (B : Int), Inv m pool B → ScI m → NC m → B ≤ 1900000000 → 61 ≤ n + s → (s : Int) < m 0 → (∀ c : Nat, s < c → (c : Int) < m 0 → ¬ m (18 + 4 * c) = 1) →
  ∃ m', shutsR pool sink n m s m' ∧ Inv m' pool B ∧ ScI m' ∧ Es m m' ∧ (m (18 + 4 * s) = 0 → m' (18 + 4 * s) = if s = 0 then 0 else 2)
theorem sh_loop {pool : Nat → Int} (hPo : poolOk pool) {sink : Int} (hk : InR sink) {n s : Nat} (hS : SX pool sink n) (hn : 60 ≤ n + s) : ∀ (K : Nat) (m : Nat → Int) (B : Int), Inv m pool B → ScI m → NC m → B ≤ 1900000000 → (s : Int) < m 0 → m (18 + 4 * s) = 1 → (∀ c : Nat, s < c → (c : Int) < m 0 → ¬ m (18 + 4 * c) = 1) → (90 - m 2) + cnt (openB m) (m 0).toNat ≤ K →
    ∃ k m', shLoopR (closesR pool sink 91) (shutsR pool sink n) s k m m' ∧ Inv m' pool B ∧ ScI m' ∧ Es m m' ∧ lastI m' s < 0
  | K, m, B, h, hsc, hnc, hB, hs0, hs1, hc1, hK => by
    have hok := h.1
    obtain ⟨hM, k0, k1, k2, k3, k4, k5, k7⟩ := id hok
    have h01 := h.2.1.1
    have hr := lastM_p m s (m 1).toNat (m 0).toNat (by omega)
    have hdef : lastI m s = lastM m s (m 1).toNat (m 0).toNat := rfl
    rw [← hdef] at hr
    have rc := cnt_r (openB m) (m 0).toNat
    rcases hr with hr | ⟨u, hr, hu1, hu2, hu3⟩ | ⟨u, hr, hu0, hu1, hu2, hu3⟩
    · exact ⟨0, m, ⟨hok, h01, by omega, rfl⟩, h, hsc, Es.rf, by omega⟩
    · obtain ⟨m1, a, b, c, d, -⟩ := closes_ex hPo hk 91 m u B h (by omega) (by rw [hnc.cnt k1.1]; omega) (by omega) hu2
      have b2 := b.1.2.2.2.1
      have e0 : m1 0 = m 0 := c.1 0 (by unfold far; omega)
      have ec : cnt (openB m1) (m 0).toNat = cnt (openB m) (m 0).toNat := cnt_congr _ (fun q hq => by unfold openB; rw [c.1 _ (by unfold far; omega)])
      cases K with
      | zero => omega
      | succ K =>
        obtain ⟨k, m', a2, b2, c2, d2, e2⟩ := sh_loop hPo hk hS hn K m1 B b (c.sc hsc k0.2) (c.es.2.2.2.1 hnc) hB (by omega) (by rw [c.1 _ (by unfold far; omega)]; exact hs1) (fun q x y => by rw [c.1 _ (by unfold far; omega)]; exact hc1 q x (by omega)) (by rw [e0, ec]; omega)
        exact ⟨k + 1, m', ⟨hok, h01, Or.inr (Or.inl ⟨by omega, m1, by rw [hr, Int.toNat_natCast]; exact a, a2⟩)⟩, b2, c2, c.es.tr d2, e2⟩
    · obtain ⟨p1, p2⟩ := hsc.2.2 u (by omega)
      obtain ⟨p3, -, -⟩ := p2 hu0
      obtain ⟨m1, a, b, c, d, e⟩ := hS m u B h hsc hnc hB (by omega) (by omega) (fun q x y => hc1 q (by omega) y)
      have e0 : m1 0 = m 0 := d.1 0 (by unfold fat; omega)
      have eu := e hu2
      rw [if_neg (by omega)] at eu
      have ec : cnt (openB m1) (m 0).toNat < cnt (openB m) (m 0).toNat := by
        have le : ∀ N : Nat, N ≤ 60 → cnt (openB m1) N ≤ cnt (openB m) N ∧ (u < N → cnt (openB m1) N < cnt (openB m) N) := by
          intro N
          induction N with
          | zero => intro _; exact ⟨Int.le_refl _, fun z => by omega⟩
          | succ N ih =>
            intro hN
            obtain ⟨i1, i2⟩ := ih (by omega)
            rw [cnt_S, cnt_S]
            by_cases g : N = u
            · subst g
              rw [show openB m1 N = false from decide_eq_false (by rw [eu]; decide), show openB m N = true from decide_eq_true hu2]
              simp only [if_true, Bool.false_eq_true, if_false]
              omega
            · have q : (if openB m1 N = true then (1 : Int) else 0) ≤ (if openB m N = true then 1 else 0) := by
                rcases d.2.1 N (by omega) with w | w
                · rw [show openB m1 N = openB m N by unfold openB; rw [w]]; exact Int.le_refl _
                · rw [show openB m1 N = false from decide_eq_false (by rw [w.2.1]; decide)]
                  simp only [Bool.false_eq_true, if_false]
                  split <;> decide
              refine ⟨by omega, fun z => ?_⟩
              have := i2 (by omega)
              omega
        exact (le (m 0).toNat (by omega)).2 (by omega)
      have d3 := d.2.2.1
      have st1 : m1 (18 + 4 * s) = 1 := by
        rcases d.2.1 s (by omega) with w | w
        · rw [w]; exact hs1
        · rw [hs1] at w; exact absurd w.1 (by decide)
      have rc1 := cnt_r (openB m1) (m 0).toNat
      cases K with
      | zero => omega
      | succ K =>
        obtain ⟨k, m', a2, b2, c2, d2, e2⟩ := sh_loop hPo hk hS hn K m1 B b c (d.2.2.2.1 hnc) hB (by omega) st1 (fun q x y => by
          rcases d.2.1 q (by omega) with w | w
          · rw [w]; exact hc1 q x (by omega)
          · rw [w.2.1]; decide) (by rw [e0]; omega)
        exact ⟨k + 1, m', ⟨hok, h01, Or.inr (Or.inr ⟨by omega, m1, by rw [hr, show 100 + (u : Int) - 100 = u by omega]; exact a, a2⟩)⟩, b2, c2, d.tr d2, e2⟩
theorem shuts_ex {pool : Nat → Int} (hPo : poolOk pool) {sink : Int} (hk : InR sink) : ∀ n : Nat, SX pool sink n
  | 0 => fun m s B h hsc hnc hB hn hs hc => by
    have := h.1.2.1
    omega
  | n + 1 => fun m s B h hsc hnc hB hn hs hc => by
    have hok := h.1
    have k0 := hok.2.1
    by_cases ho : m (18 + 4 * s) = 0
    · have e : ∀ q, ¬ q = 18 + 4 * s → updI m (18 + 4 * s) 1 q = m q := fun q a => updI_n a
      have hsc1 : ScI (updI m (18 + 4 * s) 1) := by
        obtain ⟨s1, s2, s3⟩ := hsc
        refine ⟨by rw [e _ (by omega)]; exact s1, ?_, fun c hcc => ?_⟩
        · by_cases z : s = 0
          · subst z; rw [updI_s]; decide
          · rw [e _ (by omega)]; exact s2
        · rw [e 0 (by omega)] at hcc
          obtain ⟨a, b⟩ := s3 c hcc
          rw [e (19 + 4 * c) (by omega), e (20 + 4 * c) (by omega), e 6 (by omega)]
          refine ⟨?_, fun h1 => ?_⟩
          · by_cases z : c = s
            · subst z; rw [updI_s]; decide
            · rw [e _ (by omega)]; exact a
          · obtain ⟨b1, b2, b3⟩ := b h1
            refine ⟨b1, b2, fun z => ?_⟩
            by_cases g : (m (19 + 4 * c)).toNat = s
            · rw [g, updI_s]; decide
            · rw [e _ (by omega)]
              refine b3 ?_
              by_cases g2 : c = s
              · subst g2; rw [ho]; decide
              · rw [e _ (by omega)] at z; exact z
      have hc2 : ∀ c : Nat, s < c → (c : Int) < updI m (18 + 4 * s) 1 0 → ¬ updI m (18 + 4 * s) 1 (18 + 4 * c) = 1 := fun c a b => by
        rw [e 0 (by omega)] at b
        rw [e _ (by omega)]; exact hc c a b
      have hr := cnt_r (openB (updI m (18 + 4 * s) 1)) (updI m (18 + 4 * s) 1 0).toNat
      obtain ⟨k, m2, a, b, c, d, f⟩ := sh_loop hPo hk (shuts_ex hPo hk n) (s := s) (by omega) 200 _ B (h.scope (by omega) (by decide)) hsc1 (fun t ht => by rw [e 1 (by omega)] at ht; rw [e _ (by omega)]; exact hnc t ht) hB (by rw [e 0 (by omega)]; exact hs) updI_s hc2 (by have := h.1.2.2.2.1; rw [e 2 (by omega)]; rw [e 0 (by omega)] at hr ⊢; omega)
      obtain ⟨d1, d2, d3, d4, d5⟩ := d
      have f0 : m2 0 = m 0 := (d1 0 (by unfold fat; omega)).trans (e 0 (by omega))
      have hno := lastM_no (m := m2) (s := (s : Int)) (N := (m2 1).toNat) (C := (m2 0).toNat) (by have := b.2.1; omega) f
      have g : ∀ q, ¬ q = 18 + 4 * s → updI m2 (18 + 4 * s) (if s = 0 then 0 else 2) q = m2 q := fun q a => updI_n a
      have rv : InR (if s = 0 then 0 else 2 : Int) := by split <;> decide
      have eqs : (18 + 4 * (s : Int)).toNat = 18 + 4 * s := by omega
      have eqi : (if (s : Int) = 0 then (0 : Int) else 2) = if s = 0 then 0 else 2 := by
        by_cases z : s = 0
        · subst z; rfl
        · rw [if_neg z, if_neg (by omega)]
      obtain ⟨c1, c2, c3⟩ := c
      refine ⟨updI m2 (18 + 4 * s) (if s = 0 then 0 else 2), ⟨hok, ⟨by omega, by omega⟩, Or.inr ⟨openP_nat.mpr ⟨hs, ho⟩, k, m2, by rw [eqs]; exact a, by rw [eqs, eqi]⟩⟩, b.scope (by omega) rv, ?_, ?_, fun _ => updI_s⟩
      · refine ⟨by rw [g _ (by omega)]; exact c1, ?_, fun u hu => ?_⟩
        · by_cases z : s = 0
          · subst z; rw [updI_s]; decide
          · rw [g _ (by omega)]; exact c2
        · rw [g 0 (by omega)] at hu
          obtain ⟨x, y⟩ := c3 u hu
          rw [g (19 + 4 * u) (by omega), g (20 + 4 * u) (by omega), g 6 (by omega)]
          refine ⟨?_, fun h1 => ?_⟩
          · by_cases z : u = s
            · subst z; rw [updI_s]; split <;> decide
            · rw [g _ (by omega)]; exact x
          · obtain ⟨b1, b2, b3⟩ := y h1
            refine ⟨b1, b2, fun z => ?_⟩
            by_cases q : (m2 (19 + 4 * u)).toNat = s
            · rw [q, updI_s]
              by_cases z0 : s = 0
              · rw [if_pos z0]; decide
              · exfalso
                have us : ¬ u = s := by omega
                rw [g _ (by omega)] at z
                have n1 : ¬ m2 (18 + 4 * u) = 0 := fun w => hno.2 u h1 (by omega) ⟨w, by omega, by omega⟩
                have n2 : m2 (18 + 4 * u) = 1 := by omega
                rcases d2 u (by omega) with w | w
                · rw [w] at n2
                  exact hc2 u (by omega) (by rw [e 0 (by omega)]; omega) n2
                · rw [w.2.1] at n2; exact absurd n2 (by decide)
            · rw [g _ (by omega)]
              refine b3 ?_
              by_cases g2 : u = s
              · subst g2
                intro w
                rcases d2 u (by omega) with w2 | w2
                · rw [w2, updI_s] at w; exact absurd w (by decide)
                · rw [updI_s] at w2; exact absurd w2.1 (by decide)
              · rw [g _ (by omega)] at z; exact z
      · refine ⟨fun q hq => ?_, fun u hu => ?_, ?_, fun z => ?_, fun t ht => ?_⟩
        · have q1 : ¬ q = 18 + 4 * s := by
            intro w
            subst w
            rcases hq with w | w | w | w | ⟨-, -, w⟩ | w
            · omega
            · omega
            · omega
            · omega
            · exact w s rfl
            · omega
          rw [g q q1, d1 q hq, e q q1]
        · by_cases z : u = s
          · subst z
            rw [updI_s, ho]
            by_cases z0 : u = 0
            · rw [if_pos z0]; exact Or.inl rfl
            · rw [if_neg z0]; exact Or.inr ⟨rfl, rfl, by omega⟩
          · rw [g _ (by omega)]
            have := d2 u hu
            rw [e _ (by omega)] at this
            exact this
        · rw [e 1 (by omega), e 2 (by omega), e 6 (by omega)] at d3
          rw [g 1 (by omega), g 2 (by omega), g 6 (by omega)]; exact d3
        · have y := d4 (fun t ht => by rw [e 1 (by omega)] at ht; rw [e _ (by omega)]; exact z t ht)
          intro t ht
          rw [g 1 (by omega)] at ht
          rw [g _ (by omega)]; exact y t ht
        · rw [g _ (by omega)]
          have := d5 t ht
          rw [e _ (by omega)] at this
          exact this
    · exact ⟨m, ⟨hok, ⟨by omega, by omega⟩, Or.inl ⟨fun z => ho (openP_nat.mp z).2, rfl⟩⟩, h, hsc, Es.rf, fun z => absurd z ho⟩
end mg_79
