/-! ===== contracts of the reference: steps ===== -/
theorem J_wr (a : Int) : J (J a).toInt = J a := (J_of (J a)).symm
def andR (r : Bool × PS) (f : PS → Bool × PS) : Bool × PS := if r.1 = true then f r.2 else r
def nR (sr : Nat → Int) (len : Int) (n : Nat) (l m : Int) (q : PS) : Bool × PS := (decide (numberB sr len n l m q), numberF sr len n l m q)
def gR (sr : Nat → Int) (len : Int) (c : Int) (q : PS) : Bool × PS := (decide (hereF sr len q.1 = c), signF sr len c q)
def vR (sr : Nat → Int) (len : Int) (q : PS) : Bool × PS := (decide (signedB sr len q), signedF sr len q)
def aR (sr : Nat → Int) (len : Int) (q : PS) : Bool × PS := (decide (nameB sr len q), nameF sr len q)
def takeG (sr : Nat → Int) (len : Int) (steps : PS → Bool × PS) (w : Int) (q : PS) : Bool × PS :=
  andR (aR sr len q) (fun q1 => if hereF sr len q1.1 = 123 then (if 2 < w then (false, failF q1.1 q1) else andR (steps (advF q1)) (gR sr len 125)) else (true, q1))
abbrev stepOk (c : Int) (it bh : Bool) (q : PS) : Prop := c = 43 ∨ c = 33 ∨ c = 97 ∨ c = 120 ∨ c = 109 ∨ c = 107 ∨ c = 46 ∨ (c = 63 ∧ bh = false) ∨ ((c = 40 ∨ (c = 41 ∧ 0 < q.2.2.2.2)) ∧ it = true)
def openF (c : Int) (q : PS) : PS := (q.1, q.2.1, q.2.2.1, q.2.2.2.1, q.2.2.2.2 + (if c = 40 then 1 else if c = 41 then -1 else 0))
def stepG (sr : Nat → Int) (len : Int) (take inner : PS → Bool × PS) (c : Int) (q : PS) : Bool × PS :=
  if c = 43 then andR (andR (nR sr len 1 0 7 q) (gR sr len 61)) (vR sr len)
  else if c = 33 then nR sr len 2 1 99 q
  else if c = 97 then take q
  else if c = 120 then aR sr len q
  else if c = 109 then andR (andR (aR sr len q) (gR sr len 62)) (nR sr len 2 0 99)
  else if c = 107 then nR sr len 1 0 9 q
  else if c = 63 then andR (andR (andR (andR (nR sr len 1 0 7 q) (gR sr len 60)) (vR sr len)) (gR sr len 58)) inner
  else (true, openF c q)
theorem andR_t {r : Bool × PS} {f : PS → Bool × PS} (h : r.1 = true) : andR r f = f r.2 := by simp [andR, h]
theorem andR_f {r : Bool × PS} {f : PS → Bool × PS} (h : ¬ r.1 = true) : andR r f = r := by simp [andR, h]
theorem andR_ok {len : Int} {r : Bool × PS} {f : PS → Bool × PS} (h : psOk len r.2) (hf : ∀ q, psOk len q → psOk len (f q).2) : psOk len (andR r f).2 := by
  unfold andR
  split
  · exact hf _ h
  · exact h
set_option maxHeartbeats 4000000 in
set_option maxRecDepth 100000 in
theorem l_number {G : mG} {l : Launch} (d : Nat) {h : mH} {x s : Nat} {f4 f6 f9 f14 f16 f18 : Int} {q : PS} {m kp was pool tape pln pap rwd rw sr : Nat → Int} (hB : isM h x (mFs x f4 f6 q.1 f9 q.2.1 q.2.2.1 q.2.2.2.1 q.2.2.2.2 f14 f16 f18 s) m kp was pool tape pln pap rwd rw) (hT : txOk s sr pool tape f9) (hq : psOk f9 q) {F : Nat} (hF : F ≤ 5) {lo hi : Int} (hlo : InR lo) (hhi : InR hi) : RUNM G l (d + 3) mX11_isNumber [.ref x, .int (J (F : Int)), .int (J lo), .int (J hi)] h (fun v h' => v = some (.int (J (bz (nR sr f9 F lo hi q).1))) ∧ isM h' x (mFs x f4 f6 ((nR sr f9 F lo hi q).2).1 f9 ((nR sr f9 F lo hi q).2).2.1 ((nR sr f9 F lo hi q).2).2.2.1 ((nR sr f9 F lo hi q).2).2.2.2.1 ((nR sr f9 F lo hi q).2).2.2.2.2 f14 f16 f18 s) m kp was pool tape pln pap rwd rw ∧ Same (mBlk x) h h') := (m_isNumber (F := F) d hB hT hq hF hlo hhi).mono (fun v h' g => ⟨by rw [g.1]; unfold nR; rw [bz_d], g.2.1, g.2.2⟩)
set_option maxHeartbeats 4000000 in
set_option maxRecDepth 100000 in
theorem l_sign {G : mG} {l : Launch} (d : Nat) {h : mH} {x s : Nat} {f4 f6 f9 f14 f16 f18 : Int} {q : PS} {m kp was pool tape pln pap rwd rw sr : Nat → Int} (hB : isM h x (mFs x f4 f6 q.1 f9 q.2.1 q.2.2.1 q.2.2.2.1 q.2.2.2.2 f14 f16 f18 s) m kp was pool tape pln pap rwd rw) (hT : txOk s sr pool tape f9) (hq : psOk f9 q) {c : Int} (hc : InR c) : RUNM G l (d + 1) mX11_isSign [.ref x, .int (J c)] h (fun v h' => v = some (.int (J (bz (gR sr f9 c q).1))) ∧ isM h' x (mFs x f4 f6 ((gR sr f9 c q).2).1 f9 ((gR sr f9 c q).2).2.1 ((gR sr f9 c q).2).2.2.1 ((gR sr f9 c q).2).2.2.2.1 ((gR sr f9 c q).2).2.2.2.2 f14 f16 f18 s) m kp was pool tape pln pap rwd rw ∧ Same (mBlk x) h h') := (m_isSign d hB hT hq hc).mono (fun v h' g => ⟨by rw [g.1]; unfold gR; rw [bz_d], g.2.1, g.2.2⟩)
set_option maxHeartbeats 4000000 in
set_option maxRecDepth 100000 in
theorem l_signed {G : mG} {l : Launch} (d : Nat) {h : mH} {x s : Nat} {f4 f6 f9 f14 f16 f18 : Int} {q : PS} {m kp was pool tape pln pap rwd rw sr : Nat → Int} (hB : isM h x (mFs x f4 f6 q.1 f9 q.2.1 q.2.2.1 q.2.2.2.1 q.2.2.2.2 f14 f16 f18 s) m kp was pool tape pln pap rwd rw) (hT : txOk s sr pool tape f9) (hq : psOk f9 q) : RUNM G l (d + 4) mX11_isSigned [.ref x] h (fun v h' => v = some (.int (J (bz (vR sr f9 q).1))) ∧ isM h' x (mFs x f4 f6 ((vR sr f9 q).2).1 f9 ((vR sr f9 q).2).2.1 ((vR sr f9 q).2).2.2.1 ((vR sr f9 q).2).2.2.2.1 ((vR sr f9 q).2).2.2.2.2 f14 f16 f18 s) m kp was pool tape pln pap rwd rw ∧ Same (mBlk x) h h') := (m_isSigned d hB hT hq).mono (fun v h' g => ⟨by rw [g.1]; unfold vR; rw [bz_d], g.2.1, g.2.2⟩)
set_option maxHeartbeats 4000000 in
set_option maxRecDepth 100000 in
theorem l_name {G : mG} {l : Launch} (d : Nat) {h : mH} {x s : Nat} {f4 f6 f9 f14 f16 f18 : Int} {q : PS} {m kp was pool tape pln pap rwd rw sr : Nat → Int} (hB : isM h x (mFs x f4 f6 q.1 f9 q.2.1 q.2.2.1 q.2.2.2.1 q.2.2.2.2 f14 f16 f18 s) m kp was pool tape pln pap rwd rw) (hT : txOk s sr pool tape f9) (hq : psOk f9 q) : RUNM G l (d + 2) mX11_isName [.ref x] h (fun v h' => v = some (.int (J (bz (aR sr f9 q).1))) ∧ isM h' x (mFs x f4 f6 ((aR sr f9 q).2).1 f9 ((aR sr f9 q).2).2.1 ((aR sr f9 q).2).2.2.1 ((aR sr f9 q).2).2.2.2.1 ((aR sr f9 q).2).2.2.2.2 f14 f16 f18 s) m kp was pool tape pln pap rwd rw ∧ Same (mBlk x) h h') := (m_isName d hB hT hq).mono (fun v h' g => ⟨by rw [g.1]; unfold aR; rw [bz_d], g.2.1, g.2.2⟩)
theorem nR_ok {sr : Nat → Int} {len : Int} {n : Nat} {l m : Int} {q : PS} (hn : n ≤ 5) (hq : psOk len q) : psOk len (nR sr len n l m q).2 := number_ok hn hq
theorem gR_ok {sr : Nat → Int} {len c : Int} {q : PS} (hc : c ≠ -1) (hq : psOk len q) : psOk len (gR sr len c q).2 := sign_ok hq hc
theorem vR_ok {sr : Nat → Int} {len : Int} {q : PS} (hq : psOk len q) : psOk len (vR sr len q).2 := signed_ok hq
theorem aR_ok {sr : Nat → Int} {len : Int} {q : PS} (hq : psOk len q) : psOk len (aR sr len q).2 := name_ok hq
set_option maxHeartbeats 4000000 in
set_option maxRecDepth 100000 in
theorem m_isTakeRead {G : mG} {l : Launch} (d : Nat) {h : mH} {x s : Nat} {f4 f6 f9 f14 f16 f18 : Int} {q : PS} {m kp was pool tape pln pap rwd rw sr : Nat → Int} (hB : isM h x (mFs x f4 f6 q.1 f9 q.2.1 q.2.2.1 q.2.2.2.1 q.2.2.2.2 f14 f16 f18 s) m kp was pool tape pln pap rwd rw) (hT : txOk s sr pool tape f9) (hq : psOk f9 q) {w : Int} (hw0 : 0 ≤ w) (hw : w ≤ 3) {steps : PS → Bool × PS} (hst : ∀ q, psOk f9 q → psOk f9 (steps q).2) {e : Nat} (hSt : w ≤ 2 → ∀ (q : PS) (h : mH), isM h x (mFs x f4 f6 q.1 f9 q.2.1 q.2.2.1 q.2.2.2.1 q.2.2.2.2 f14 f16 f18 s) m kp was pool tape pln pap rwd rw → psOk f9 q → RUNM G l (e + d + 2) mX11_isStepsRead [.ref x, .int (J (w + 1)), .int (J 0)] h (fun v h' => v = some (.int (J (bz (steps q).1))) ∧ isM h' x (mFs x f4 f6 ((steps q).2).1 f9 ((steps q).2).2.1 ((steps q).2).2.2.1 ((steps q).2).2.2.2.1 ((steps q).2).2.2.2.2 f14 f16 f18 s) m kp was pool tape pln pap rwd rw ∧ Same (mBlk x) h h')) : RUNM G l (e + d + 3) mX11_isTakeRead [.ref x, .int (J w)] h (fun v h' => v = some (.int (J (bz (takeG sr f9 steps w q).1))) ∧ isM h' x (mFs x f4 f6 ((takeG sr f9 steps w q).2).1 f9 ((takeG sr f9 steps w q).2).2.1 ((takeG sr f9 steps w q).2).2.2.1 ((takeG sr f9 steps w q).2).2.2.2.1 ((takeG sr f9 steps w q).2).2.2.2.2 f14 f16 f18 s) m kp was pool tape pln pap rwd rw ∧ Same (mBlk x) h h') := by
  dsimp only [mFs] at hB
  refine RUNM.of (by decide +kernel) (Nat.le_of_ble_eq_true rfl) ?_
  have hB0 := hB
  obtain ⟨hq1, hq2, hq3, hq4, hq5, hq6, hq7, hq8⟩ := id hq
  obtain ⟨hs, hl0, hby⟩ := id hT
  refine r_aload_n (pc := 0) dX11_isTakeRead_0 rfl (by first | rfl | exact isRefV_rf _) ?_
  refine r_callV0 (pc := 1) dX11_isTakeRead_1 qX11_isName kX11_88 vX11_isName (by exact isM.gx (by assumption)) rfl rfl (Nat.le_of_ble_eq_true rfl) (l_name (e + d) hB0 hT hq) (fun v_1 h_1 q_1 => ?_)
  obtain ⟨rfl, hB_1, hS_1⟩ := q_1
  refine rj_if_ne (pc := 4) (tgt := 9) dX11_isTakeRead_4 (by decide) (by first | assumption | exact b01_r | exact bz_r | omega | (constructor <;> omega) | exact hM _ | exact hPo _ | exact hTa _ | exact hRo _) (fun c_4 => ?_) (fun c_4 => ?_)
  · try simp only [b01_0, bz_0, Classical.not_not] at c_4
    have hh := here_r hT (aR sr f9 q).2.1
    refine r_aload_n (pc := 9) dX11_isTakeRead_9 rfl (by first | rfl | exact isRefV_rf _) ?_
    refine r_callV0 (pc := 10) dX11_isTakeRead_10 qX11_here kX11_74 vX11_here (by exact isM.gx (by assumption)) rfl rfl (Nat.le_of_ble_eq_true rfl) (m_here (e + d + 2) hB_1 hT (aR_ok hq)) (fun v_10 h_10 q_10 => ?_)
    obtain ⟨rfl, rfl⟩ := q_10
    refine rj_bipush (pc := 13) dX11_isTakeRead_13 (by decide +kernel) ?_
    refine rj_icmp_eq (pc := 15) (tgt := 20) dX11_isTakeRead_15 (by decide) (by first | assumption | exact b01_r | exact bz_r | omega | (constructor <;> omega) | exact hM _ | exact hPo _ | exact hTa _ | exact hRo _) (by first | assumption | exact b01_r | exact bz_r | omega | (constructor <;> omega) | exact hM _ | exact hPo _ | exact hTa _ | exact hRo _) (fun c_15 => ?_) (fun c_15 => ?_)
    · refine r_iload_n (pc := 20) dX11_isTakeRead_20 rfl ?_
      refine rj_iconst (pc := 21) dX11_isTakeRead_21 ?_
      refine rj_icmp_le (pc := 22) (tgt := 34) dX11_isTakeRead_22 (by decide) (by first | assumption | exact b01_r | exact bz_r | omega | (constructor <;> omega) | exact hM _ | exact hPo _ | exact hTa _ | exact hRo _) (by first | assumption | exact b01_r | exact bz_r | omega | (constructor <;> omega) | exact hM _ | exact hPo _ | exact hTa _ | exact hRo _) (fun c_22 => ?_) (fun c_22 => ?_)
      · have hl1 := here_lt (sr := sr) (len := f9) (a := (aR sr f9 q).2.1) (by omega)
        refine r_aload_n (pc := 34) dX11_isTakeRead_34 rfl (by first | rfl | exact isRefV_rf _) ?_
        refine r_dup (pc := 35) dX11_isTakeRead_35 (by first | rfl | (cases ‹Option Nat› <;> rfl)) ?_
        refine rm_getf (pc := 36) dX11_isTakeRead_36 fX11_65 (by assumption) rfl ?_
        refine rj_iconst (pc := 39) dX11_isTakeRead_39 ?_
        refine rj_iadd (pc := 40) dX11_isTakeRead_40 ?_
        refine rm_putf (pc := 41) dX11_isTakeRead_41 fX11_65 (by assumption) rfl rfl (Nat.le_of_ble_eq_true rfl) (fun h_41 hB_41 hS_41 => ?_)
        dsimp only [List.set, mFs] at hB_41
        refine r_aload_n (pc := 44) dX11_isTakeRead_44 rfl (by first | rfl | exact isRefV_rf _) ?_
        refine r_iload_n (pc := 45) dX11_isTakeRead_45 rfl ?_
        refine rj_iconst (pc := 46) dX11_isTakeRead_46 ?_
        refine rj_iadd (pc := 47) dX11_isTakeRead_47 ?_
        refine rj_iconst (pc := 48) dX11_isTakeRead_48 ?_
        refine r_callV2 (pc := 49) dX11_isTakeRead_49 qX11_isStepsRead kX11_92 vX11_isStepsRead (by exact isM.gx (by assumption)) rfl rfl (Nat.le_of_ble_eq_true rfl) (hSt c_22 (advF (aR sr f9 q).2) _ hB_41 (adv_ok (aR_ok hq) hl1)) (fun v_49 h_49 q_49 => ?_)
        obtain ⟨rfl, hB_49, hS_49⟩ := q_49
        refine rj_if_eq (pc := 52) (tgt := 68) dX11_isTakeRead_52 (by decide) (by first | assumption | exact b01_r | exact bz_r | omega | (constructor <;> omega) | exact hM _ | exact hPo _ | exact hTa _ | exact hRo _) (fun c_52 => ?_) (fun c_52 => ?_)
        · try simp only [b01_0, bz_0, Classical.not_not] at c_52
          refine rj_iconst (pc := 68) dX11_isTakeRead_68 ?_
          refine r_ireturn (pc := 69) .boolean dX11_isTakeRead_69 rfl (by first | exact nar_J0 | exact nar_J1 | exact nar_b01 | exact nar_bz) ?_
          first
          | exact ⟨by unfold takeG; rw [andR_t c_4, if_pos c_15, if_neg (by omega), andR_f c_52, bz_f c_52], by unfold takeG; rw [andR_t c_4, if_pos c_15, if_neg (by omega), andR_f c_52]; exact hB_49, (hS_1.trans hS_41).trans hS_49⟩
          | exact ⟨by unfold takeG; rw [andR_t c_4, if_pos c_15, if_neg (by omega), andR_t c_52, bz_f c_61], by unfold takeG; rw [andR_t c_4, if_pos c_15, if_neg (by omega), andR_t c_52]; exact hB_58, ((hS_1.trans hS_41).trans hS_49).trans hS_58⟩
          | exact ⟨by unfold takeG; rw [andR_t c_4, if_pos c_15, if_neg (by omega), andR_t c_52, bz_t c_61], by unfold takeG; rw [andR_t c_4, if_pos c_15, if_neg (by omega), andR_t c_52]; exact hB_58, ((hS_1.trans hS_41).trans hS_49).trans hS_58⟩
        · try simp only [b01_0, bz_0, Classical.not_not] at c_52
          refine r_aload_n (pc := 55) dX11_isTakeRead_55 rfl (by first | rfl | exact isRefV_rf _) ?_
          refine rj_bipush (pc := 56) dX11_isTakeRead_56 (by decide +kernel) ?_
          refine r_callV1 (pc := 58) dX11_isTakeRead_58 qX11_isSign kX11_96 vX11_isSign (by exact isM.gx (by assumption)) rfl rfl (Nat.le_of_ble_eq_true rfl) (l_sign (e + d + 1) hB_49 hT (hst _ (adv_ok (aR_ok hq) hl1)) (by decide)) (fun v_58 h_58 q_58 => ?_)
          obtain ⟨rfl, hB_58, hS_58⟩ := q_58
          refine rj_if_eq (pc := 61) (tgt := 68) dX11_isTakeRead_61 (by decide) (by first | assumption | exact b01_r | exact bz_r | omega | (constructor <;> omega) | exact hM _ | exact hPo _ | exact hTa _ | exact hRo _) (fun c_61 => ?_) (fun c_61 => ?_)
          · try simp only [b01_0, bz_0, Classical.not_not] at c_61
            refine rj_iconst (pc := 68) dX11_isTakeRead_68 ?_
            refine r_ireturn (pc := 69) .boolean dX11_isTakeRead_69 rfl (by first | exact nar_J0 | exact nar_J1 | exact nar_b01 | exact nar_bz) ?_
            first
            | exact ⟨by unfold takeG; rw [andR_t c_4, if_pos c_15, if_neg (by omega), andR_f c_52, bz_f c_52], by unfold takeG; rw [andR_t c_4, if_pos c_15, if_neg (by omega), andR_f c_52]; exact hB_49, (hS_1.trans hS_41).trans hS_49⟩
            | exact ⟨by unfold takeG; rw [andR_t c_4, if_pos c_15, if_neg (by omega), andR_t c_52, bz_f c_61], by unfold takeG; rw [andR_t c_4, if_pos c_15, if_neg (by omega), andR_t c_52]; exact hB_58, ((hS_1.trans hS_41).trans hS_49).trans hS_58⟩
            | exact ⟨by unfold takeG; rw [andR_t c_4, if_pos c_15, if_neg (by omega), andR_t c_52, bz_t c_61], by unfold takeG; rw [andR_t c_4, if_pos c_15, if_neg (by omega), andR_t c_52]; exact hB_58, ((hS_1.trans hS_41).trans hS_49).trans hS_58⟩
          · try simp only [b01_0, bz_0, Classical.not_not] at c_61
            refine rj_iconst (pc := 64) dX11_isTakeRead_64 ?_
            refine r_goto (pc := 65) (tgt := 69) dX11_isTakeRead_65 (by decide) ?_
            refine r_ireturn (pc := 69) .boolean dX11_isTakeRead_69 rfl (by first | exact nar_J0 | exact nar_J1 | exact nar_b01 | exact nar_bz) ?_
            first
            | exact ⟨by unfold takeG; rw [andR_t c_4, if_pos c_15, if_neg (by omega), andR_f c_52, bz_f c_52], by unfold takeG; rw [andR_t c_4, if_pos c_15, if_neg (by omega), andR_f c_52]; exact hB_49, (hS_1.trans hS_41).trans hS_49⟩
            | exact ⟨by unfold takeG; rw [andR_t c_4, if_pos c_15, if_neg (by omega), andR_t c_52, bz_f c_61], by unfold takeG; rw [andR_t c_4, if_pos c_15, if_neg (by omega), andR_t c_52]; exact hB_58, ((hS_1.trans hS_41).trans hS_49).trans hS_58⟩
            | exact ⟨by unfold takeG; rw [andR_t c_4, if_pos c_15, if_neg (by omega), andR_t c_52, bz_t c_61], by unfold takeG; rw [andR_t c_4, if_pos c_15, if_neg (by omega), andR_t c_52]; exact hB_58, ((hS_1.trans hS_41).trans hS_49).trans hS_58⟩
      · refine r_aload_n (pc := 25) dX11_isTakeRead_25 rfl (by first | rfl | exact isRefV_rf _) ?_
        refine r_aload_n (pc := 26) dX11_isTakeRead_26 rfl (by first | rfl | exact isRefV_rf _) ?_
        refine rm_getf (pc := 27) dX11_isTakeRead_27 fX11_65 (by assumption) rfl ?_
        refine r_callV1 (pc := 30) dX11_isTakeRead_30 qX11_fails kX11_78 vX11_fails (by exact isM.gx (by assumption)) rfl rfl (Nat.le_of_ble_eq_true rfl) (m_fails (e + d + 2) hB_1 hT (aR_ok hq)) (fun v_30 h_30 q_30 => ?_)
        obtain ⟨rfl, hB_30, hS_30⟩ := q_30
        refine r_ireturn (pc := 33) .boolean dX11_isTakeRead_33 rfl (by first | exact nar_J0 | exact nar_J1 | exact nar_b01 | exact nar_bz) ?_
        exact ⟨by unfold takeG; rw [andR_t c_4, if_pos c_15, if_pos (by omega)]; exact congrArg (fun z => some (Value.int (J z))) (bz_f (b := false) (by decide)).symm, by unfold takeG; rw [andR_t c_4, if_pos c_15, if_pos (by omega)]; exact hB_30, hS_1.trans hS_30⟩
    · refine rj_iconst (pc := 18) dX11_isTakeRead_18 ?_
      refine r_ireturn (pc := 19) .boolean dX11_isTakeRead_19 rfl (by first | exact nar_J0 | exact nar_J1 | exact nar_b01 | exact nar_bz) ?_
      exact ⟨by unfold takeG; rw [andR_t c_4, if_neg c_15]; rw [bz_t rfl], by unfold takeG; rw [andR_t c_4, if_neg c_15]; exact hB_1, hS_1⟩
  · try simp only [b01_0, bz_0, Classical.not_not] at c_4
    refine rj_iconst (pc := 7) dX11_isTakeRead_7 ?_
    refine r_ireturn (pc := 8) .boolean dX11_isTakeRead_8 rfl (by first | exact nar_J0 | exact nar_J1 | exact nar_b01 | exact nar_bz) ?_
    exact ⟨by unfold takeG; rw [andR_f c_4, bz_f c_4], by unfold takeG; rw [andR_f c_4]; exact hB_1, hS_1⟩
def stepR (sr : Nat → Int) (len : Int) (take inner : PS → Bool × PS) (it bh : Bool) (q : PS) : Bool × PS :=
  if stepOk (hereF sr len q.1) it bh q then stepG sr len take inner (hereF sr len q.1) (advF q) else (false, failF q.1 q)
theorem bzF : some (Value.int (J 0)) = some (Value.int (J (bz false))) := by rw [bz_f (by decide)]
theorem bzT : some (Value.int (J 1)) = some (Value.int (J (bz true))) := by rw [bz_t rfl]
theorem bzf {b : Bool} (h : ¬ b = true) : some (Value.int (J 0)) = some (Value.int (J (bz b))) := by rw [bz_f h]
theorem bzt {b : Bool} (h : b = true) : some (Value.int (J 1)) = some (Value.int (J (bz b))) := by rw [bz_t h]
set_option maxHeartbeats 4000000 in
set_option maxRecDepth 100000 in
theorem L_step98 {G : mG} {l : Launch} (n : Nat) {h : mH} {x s : Nat} {f4 f6 f9 f14 f16 f18 : Int} {q : PS} {m kp was pool tape pln pap rwd rw sr : Nat → Int} (hB : isM h x (mFs x f4 f6 q.1 f9 q.2.1 q.2.2.1 q.2.2.2.1 q.2.2.2.2 f14 f16 f18 s) m kp was pool tape pln pap rwd rw) (hT : txOk s sr pool tape f9) (hq : psOk f9 q) {w : Int} {it bh : Bool} {take inner : PS → Bool × PS} (hTk : ∀ (q : PS) (h : mH), isM h x (mFs x f4 f6 q.1 f9 q.2.1 q.2.2.1 q.2.2.2.1 q.2.2.2.2 f14 f16 f18 s) m kp was pool tape pln pap rwd rw → psOk f9 q → RUNM G l (n + 5) mX11_isTakeRead [.ref x, .int (J w)] h (fun v h' => v = some (.int (J (bz (take q).1))) ∧ isM h' x (mFs x f4 f6 ((take q).2).1 f9 ((take q).2).2.1 ((take q).2).2.2.1 ((take q).2).2.2.2.1 ((take q).2).2.2.2.2 f14 f16 f18 s) m kp was pool tape pln pap rwd rw ∧ Same (mBlk x) h h')) (hIn : bh = false → ∀ (q : PS) (h : mH), isM h x (mFs x f4 f6 q.1 f9 q.2.1 q.2.2.1 q.2.2.2.1 q.2.2.2.2 f14 f16 f18 s) m kp was pool tape pln pap rwd rw → psOk f9 q → RUNM G l (n + 5) mX11_isStepRead [.ref x, .int (J w), .int (J 0), .int (J 1)] h (fun v h' => v = some (.int (J (bz (inner q).1))) ∧ isM h' x (mFs x f4 f6 ((inner q).2).1 f9 ((inner q).2).2.1 ((inner q).2).2.2.1 ((inner q).2).2.2.2.1 ((inner q).2).2.2.2.2 f14 f16 f18 s) m kp was pool tape pln pap rwd rw ∧ Same (mBlk x) h h')) : RUN G l (n + 6) mX11_isStepRead 98 [some (.ref x), some (.int (J w)), some (.int (J (bz it))), some (.int (J (bz bh))), some (.int (J (hereF sr f9 q.1))), some (.int (J (b01 (stepOk (hereF sr f9 q.1) it bh q))))] [] h (fun v h' => v = some (.int (J (bz (stepR sr f9 take inner it bh q).1))) ∧ isM h' x (mFs x f4 f6 ((stepR sr f9 take inner it bh q).2).1 f9 ((stepR sr f9 take inner it bh q).2).2.1 ((stepR sr f9 take inner it bh q).2).2.2.1 ((stepR sr f9 take inner it bh q).2).2.2.2.1 ((stepR sr f9 take inner it bh q).2).2.2.2.2 f14 f16 f18 s) m kp was pool tape pln pap rwd rw ∧ Same (mBlk x) h h') := by
  have hB0 := hB
  dsimp only [mFs] at hB
  obtain ⟨hq1, hq2, hq3, hq4, hq5, hq6, hq7, hq8⟩ := id hq
  obtain ⟨hs, hl0, hby⟩ := id hT
  have hh := here_r hT q.1
  refine r_iload (pc := 98) dX11_isStepRead_98 rfl ?_
  refine rj_if_ne (pc := 100) (tgt := 112) dX11_isStepRead_100 (by decide) (by first | assumption | exact b01_r | exact bz_r | omega | (constructor <;> omega) | exact hM _ | exact hPo _ | exact hTa _ | exact hRo _) (fun c_100 => ?_) (fun c_100 => ?_)
  · try simp only [b01_0, bz_0, Classical.not_not] at c_100
    have hl : q.1 < f9 := here_lt (sr := sr) (by rcases c_100 with g | g | g | g | g | g | g | g | g <;> omega)
    refine r_aload_n (pc := 112) dX11_isStepRead_112 rfl (by first | rfl | exact isRefV_rf _) ?_
    refine r_dup (pc := 113) dX11_isStepRead_113 (by first | rfl | (cases ‹Option Nat› <;> rfl)) ?_
    refine rm_getf (pc := 114) dX11_isStepRead_114 fX11_65 (by assumption) rfl ?_
    refine rj_iconst (pc := 117) dX11_isStepRead_117 ?_
    refine rj_iadd (pc := 118) dX11_isStepRead_118 ?_
    refine rm_putf (pc := 119) dX11_isStepRead_119 fX11_65 (by assumption) rfl rfl (Nat.le_of_ble_eq_true rfl) (fun h_119 hB_119 hS_119 => ?_)
    dsimp only [List.set, mFs] at hB_119
    refine r_iload (pc := 122) dX11_isStepRead_122 rfl ?_
    refine rj_lsw (pc := 124) dX11_isStepRead_124 rfl (by first | assumption | exact b01_r | exact bz_r | omega | (constructor <;> omega) | exact hM _ | exact hPo _ | exact hTa _ | exact hRo _) (by simp only [Op.lookupswitch.offset_cons, Op.lookupswitch.offset_nil]; repeat' split; all_goals omega) (fun off_124 tgt_124 ho_124 ht_124 => ?_)
    simp only [Op.lookupswitch.offset_cons, Op.lookupswitch.offset_nil] at ho_124
    by_cases e_124_33 : (33 : Int) = (hereF sr f9 q.1)
    · rw [if_pos e_124_33] at ho_124
      obtain rfl : tgt_124 = 225 := by omega
      refine r_aload_n (pc := 225) dX11_isStepRead_225 rfl (by first | rfl | exact isRefV_rf _) ?_
      refine rj_iconst (pc := 226) dX11_isStepRead_226 ?_
      refine rj_iconst (pc := 227) dX11_isStepRead_227 ?_
      refine rj_bipush (pc := 228) dX11_isStepRead_228 (by decide +kernel) ?_
      refine r_callV3 (pc := 230) dX11_isStepRead_230 qX11_isNumber kX11_85 vX11_isNumber (by exact isM.gx (by assumption)) rfl rfl (Nat.le_of_ble_eq_true rfl) (l_number (q := advF q) (F := 2) (lo := 1) (hi := 99) (n + 2) hB_119 hT (adv_ok hq hl) (by decide) (by decide) (by decide)) (fun v_230 h_230 q_230 => ?_)
      obtain ⟨rfl, hB_230, hS_230⟩ := q_230
      refine r_ireturn (pc := 233) .boolean dX11_isStepRead_233 rfl (by first | exact nar_J0 | exact nar_J1 | exact nar_b01 | exact nar_bz) ?_
      have e : (stepR sr f9 take inner it bh q) = (nR sr f9 2 1 99 (advF q)) := by
        unfold stepR
        rw [if_pos c_100]
        rw [show stepG sr f9 take inner (hereF sr f9 q.1) (advF q) = nR sr f9 2 1 99 (advF q) by rw [← e_124_33]; rfl]
      rw [e]
      exact ⟨rfl, hB_230, (hS_119.trans hS_230)⟩
    rw [if_neg e_124_33] at ho_124
    by_cases e_124_43 : (43 : Int) = (hereF sr f9 q.1)
    · rw [if_pos e_124_43] at ho_124
      obtain rfl : tgt_124 = 192 := by omega
      refine r_aload_n (pc := 192) dX11_isStepRead_192 rfl (by first | rfl | exact isRefV_rf _) ?_
      refine rj_iconst (pc := 193) dX11_isStepRead_193 ?_
      refine rj_iconst (pc := 194) dX11_isStepRead_194 ?_
      refine rj_bipush (pc := 195) dX11_isStepRead_195 (by decide +kernel) ?_
      refine r_callV3 (pc := 197) dX11_isStepRead_197 qX11_isNumber kX11_85 vX11_isNumber (by exact isM.gx (by assumption)) rfl rfl (Nat.le_of_ble_eq_true rfl) (l_number (q := advF q) (F := 1) (lo := 0) (hi := 7) (n + 2) hB_119 hT (adv_ok hq hl) (by decide) (by decide) (by decide)) (fun v_197 h_197 q_197 => ?_)
      obtain ⟨rfl, hB_197, hS_197⟩ := q_197
      refine rj_if_eq (pc := 200) (tgt := 223) dX11_isStepRead_200 (by decide) (by first | assumption | exact b01_r | exact bz_r | omega | (constructor <;> omega) | exact hM _ | exact hPo _ | exact hTa _ | exact hRo _) (fun c_200 => ?_) (fun c_200 => ?_)
      · try simp only [b01_0, bz_0, Classical.not_not] at c_200
        refine rj_iconst (pc := 223) dX11_isStepRead_223 ?_
        refine r_ireturn (pc := 224) .boolean dX11_isStepRead_224 rfl (by first | exact nar_J0 | exact nar_J1 | exact nar_b01 | exact nar_bz) ?_
        have e : (stepR sr f9 take inner it bh q) = (nR sr f9 1 0 7 (advF q)) := by
          unfold stepR
          rw [if_pos c_100]
          rw [show stepG sr f9 take inner (hereF sr f9 q.1) (advF q) = andR (andR (nR sr f9 1 0 7 (advF q)) (gR sr f9 61)) (vR sr f9) by rw [← e_124_43]; rfl]
          rw [andR_f (r := nR sr f9 1 0 7 (advF q)) c_200, andR_f c_200]
        rw [e]
        exact ⟨bzf c_200, hB_197, (hS_119.trans hS_197)⟩
      · try simp only [b01_0, bz_0, Classical.not_not] at c_200
        refine r_aload_n (pc := 203) dX11_isStepRead_203 rfl (by first | rfl | exact isRefV_rf _) ?_
        refine rj_bipush (pc := 204) dX11_isStepRead_204 (by decide +kernel) ?_
        refine r_callV1 (pc := 206) dX11_isStepRead_206 qX11_isSign kX11_96 vX11_isSign (by exact isM.gx (by assumption)) rfl rfl (Nat.le_of_ble_eq_true rfl) (l_sign (q := (nR sr f9 1 0 7 (advF q)).2) (n + 4) hB_197 hT (nR_ok (by decide) (adv_ok hq hl)) (by decide)) (fun v_206 h_206 q_206 => ?_)
        obtain ⟨rfl, hB_206, hS_206⟩ := q_206
        refine rj_if_eq (pc := 209) (tgt := 223) dX11_isStepRead_209 (by decide) (by first | assumption | exact b01_r | exact bz_r | omega | (constructor <;> omega) | exact hM _ | exact hPo _ | exact hTa _ | exact hRo _) (fun c_209 => ?_) (fun c_209 => ?_)
        · try simp only [b01_0, bz_0, Classical.not_not] at c_209
          refine rj_iconst (pc := 223) dX11_isStepRead_223 ?_
          refine r_ireturn (pc := 224) .boolean dX11_isStepRead_224 rfl (by first | exact nar_J0 | exact nar_J1 | exact nar_b01 | exact nar_bz) ?_
          have e : (stepR sr f9 take inner it bh q) = (gR sr f9 61 (nR sr f9 1 0 7 (advF q)).2) := by
            unfold stepR
            rw [if_pos c_100]
            rw [show stepG sr f9 take inner (hereF sr f9 q.1) (advF q) = andR (andR (nR sr f9 1 0 7 (advF q)) (gR sr f9 61)) (vR sr f9) by rw [← e_124_43]; rfl]
            rw [andR_t (r := nR sr f9 1 0 7 (advF q)) c_200, andR_f c_209]
          rw [e]
          exact ⟨bzf c_209, hB_206, ((hS_119.trans hS_197).trans hS_206)⟩
        · try simp only [b01_0, bz_0, Classical.not_not] at c_209
          refine r_aload_n (pc := 212) dX11_isStepRead_212 rfl (by first | rfl | exact isRefV_rf _) ?_
          refine r_callV0 (pc := 213) dX11_isStepRead_213 qX11_isSigned kX11_102 vX11_isSigned (by exact isM.gx (by assumption)) rfl rfl (Nat.le_of_ble_eq_true rfl) (l_signed (q := (gR sr f9 61 (nR sr f9 1 0 7 (advF q)).2).2) (n + 1) hB_206 hT (gR_ok (by decide) (nR_ok (by decide) (adv_ok hq hl)))) (fun v_213 h_213 q_213 => ?_)
          obtain ⟨rfl, hB_213, hS_213⟩ := q_213
          refine rj_if_eq (pc := 216) (tgt := 223) dX11_isStepRead_216 (by decide) (by first | assumption | exact b01_r | exact bz_r | omega | (constructor <;> omega) | exact hM _ | exact hPo _ | exact hTa _ | exact hRo _) (fun c_216 => ?_) (fun c_216 => ?_)
          · try simp only [b01_0, bz_0, Classical.not_not] at c_216
            refine rj_iconst (pc := 223) dX11_isStepRead_223 ?_
            refine r_ireturn (pc := 224) .boolean dX11_isStepRead_224 rfl (by first | exact nar_J0 | exact nar_J1 | exact nar_b01 | exact nar_bz) ?_
            have e : (stepR sr f9 take inner it bh q) = (vR sr f9 (gR sr f9 61 (nR sr f9 1 0 7 (advF q)).2).2) := by
              unfold stepR
              rw [if_pos c_100]
              rw [show stepG sr f9 take inner (hereF sr f9 q.1) (advF q) = andR (andR (nR sr f9 1 0 7 (advF q)) (gR sr f9 61)) (vR sr f9) by rw [← e_124_43]; rfl]
              rw [andR_t (r := nR sr f9 1 0 7 (advF q)) c_200, andR_t c_209]
            rw [e]
            exact ⟨bzf c_216, hB_213, (((hS_119.trans hS_197).trans hS_206).trans hS_213)⟩
          · try simp only [b01_0, bz_0, Classical.not_not] at c_216
            refine rj_iconst (pc := 219) dX11_isStepRead_219 ?_
            refine r_goto (pc := 220) (tgt := 224) dX11_isStepRead_220 (by decide) ?_
            refine r_ireturn (pc := 224) .boolean dX11_isStepRead_224 rfl (by first | exact nar_J0 | exact nar_J1 | exact nar_b01 | exact nar_bz) ?_
            have e : (stepR sr f9 take inner it bh q) = (vR sr f9 (gR sr f9 61 (nR sr f9 1 0 7 (advF q)).2).2) := by
              unfold stepR
              rw [if_pos c_100]
              rw [show stepG sr f9 take inner (hereF sr f9 q.1) (advF q) = andR (andR (nR sr f9 1 0 7 (advF q)) (gR sr f9 61)) (vR sr f9) by rw [← e_124_43]; rfl]
              rw [andR_t (r := nR sr f9 1 0 7 (advF q)) c_200, andR_t c_209]
            rw [e]
            exact ⟨bzt c_216, hB_213, (((hS_119.trans hS_197).trans hS_206).trans hS_213)⟩
    rw [if_neg e_124_43] at ho_124
    by_cases e_124_63 : (63 : Int) = (hereF sr f9 q.1)
    · rw [if_pos e_124_63] at ho_124
      obtain rfl : tgt_124 = 287 := by omega
      have hbh : bh = false := by
        rcases c_100 with g | g | g | g | g | g | g | ⟨g1, g2⟩ | ⟨g1 | ⟨g1, g3⟩, g2⟩ <;> first | (exfalso; omega) | exact g2
      refine r_aload_n (pc := 287) dX11_isStepRead_287 rfl (by first | rfl | exact isRefV_rf _) ?_
      refine rj_iconst (pc := 288) dX11_isStepRead_288 ?_
      refine rj_iconst (pc := 289) dX11_isStepRead_289 ?_
      refine rj_bipush (pc := 290) dX11_isStepRead_290 (by decide +kernel) ?_
      refine r_callV3 (pc := 292) dX11_isStepRead_292 qX11_isNumber kX11_85 vX11_isNumber (by exact isM.gx (by assumption)) rfl rfl (Nat.le_of_ble_eq_true rfl) (l_number (q := advF q) (F := 1) (lo := 0) (hi := 7) (n + 2) hB_119 hT (adv_ok hq hl) (by decide) (by decide) (by decide)) (fun v_292 h_292 q_292 => ?_)
      obtain ⟨rfl, hB_292, hS_292⟩ := q_292
      refine rj_if_eq (pc := 295) (tgt := 337) dX11_isStepRead_295 (by decide) (by first | assumption | exact b01_r | exact bz_r | omega | (constructor <;> omega) | exact hM _ | exact hPo _ | exact hTa _ | exact hRo _) (fun c_295 => ?_) (fun c_295 => ?_)
      · try simp only [b01_0, bz_0, Classical.not_not] at c_295
        refine rj_iconst (pc := 337) dX11_isStepRead_337 ?_
        refine r_ireturn (pc := 338) .boolean dX11_isStepRead_338 rfl (by first | exact nar_J0 | exact nar_J1 | exact nar_b01 | exact nar_bz) ?_
        have e : (stepR sr f9 take inner it bh q) = (nR sr f9 1 0 7 (advF q)) := by
          unfold stepR
          rw [if_pos c_100]
          rw [show stepG sr f9 take inner (hereF sr f9 q.1) (advF q) = andR (andR (andR (andR (nR sr f9 1 0 7 (advF q)) (gR sr f9 60)) (vR sr f9)) (gR sr f9 58)) inner by rw [← e_124_63]; rfl]
          rw [andR_f (r := nR sr f9 1 0 7 (advF q)) c_295, andR_f c_295, andR_f c_295, andR_f c_295]
        rw [e]
        exact ⟨bzf c_295, hB_292, (hS_119.trans hS_292)⟩
      · try simp only [b01_0, bz_0, Classical.not_not] at c_295
        refine r_aload_n (pc := 298) dX11_isStepRead_298 rfl (by first | rfl | exact isRefV_rf _) ?_
        refine rj_bipush (pc := 299) dX11_isStepRead_299 (by decide +kernel) ?_
        refine r_callV1 (pc := 301) dX11_isStepRead_301 qX11_isSign kX11_96 vX11_isSign (by exact isM.gx (by assumption)) rfl rfl (Nat.le_of_ble_eq_true rfl) (l_sign (q := (nR sr f9 1 0 7 (advF q)).2) (n + 4) hB_292 hT (nR_ok (by decide) (adv_ok hq hl)) (by decide)) (fun v_301 h_301 q_301 => ?_)
        obtain ⟨rfl, hB_301, hS_301⟩ := q_301
        refine rj_if_eq (pc := 304) (tgt := 337) dX11_isStepRead_304 (by decide) (by first | assumption | exact b01_r | exact bz_r | omega | (constructor <;> omega) | exact hM _ | exact hPo _ | exact hTa _ | exact hRo _) (fun c_304 => ?_) (fun c_304 => ?_)
        · try simp only [b01_0, bz_0, Classical.not_not] at c_304
          refine rj_iconst (pc := 337) dX11_isStepRead_337 ?_
          refine r_ireturn (pc := 338) .boolean dX11_isStepRead_338 rfl (by first | exact nar_J0 | exact nar_J1 | exact nar_b01 | exact nar_bz) ?_
          have e : (stepR sr f9 take inner it bh q) = (gR sr f9 60 (nR sr f9 1 0 7 (advF q)).2) := by
            unfold stepR
            rw [if_pos c_100]
            rw [show stepG sr f9 take inner (hereF sr f9 q.1) (advF q) = andR (andR (andR (andR (nR sr f9 1 0 7 (advF q)) (gR sr f9 60)) (vR sr f9)) (gR sr f9 58)) inner by rw [← e_124_63]; rfl]
            rw [andR_t (r := nR sr f9 1 0 7 (advF q)) c_295, andR_f c_304, andR_f c_304, andR_f c_304]
          rw [e]
          exact ⟨bzf c_304, hB_301, ((hS_119.trans hS_292).trans hS_301)⟩
        · try simp only [b01_0, bz_0, Classical.not_not] at c_304
          refine r_aload_n (pc := 307) dX11_isStepRead_307 rfl (by first | rfl | exact isRefV_rf _) ?_
          refine r_callV0 (pc := 308) dX11_isStepRead_308 qX11_isSigned kX11_102 vX11_isSigned (by exact isM.gx (by assumption)) rfl rfl (Nat.le_of_ble_eq_true rfl) (l_signed (q := (gR sr f9 60 (nR sr f9 1 0 7 (advF q)).2).2) (n + 1) hB_301 hT (gR_ok (by decide) (nR_ok (by decide) (adv_ok hq hl)))) (fun v_308 h_308 q_308 => ?_)
          obtain ⟨rfl, hB_308, hS_308⟩ := q_308
          refine rj_if_eq (pc := 311) (tgt := 337) dX11_isStepRead_311 (by decide) (by first | assumption | exact b01_r | exact bz_r | omega | (constructor <;> omega) | exact hM _ | exact hPo _ | exact hTa _ | exact hRo _) (fun c_311 => ?_) (fun c_311 => ?_)
          · try simp only [b01_0, bz_0, Classical.not_not] at c_311
            refine rj_iconst (pc := 337) dX11_isStepRead_337 ?_
            refine r_ireturn (pc := 338) .boolean dX11_isStepRead_338 rfl (by first | exact nar_J0 | exact nar_J1 | exact nar_b01 | exact nar_bz) ?_
            have e : (stepR sr f9 take inner it bh q) = (vR sr f9 (gR sr f9 60 (nR sr f9 1 0 7 (advF q)).2).2) := by
              unfold stepR
              rw [if_pos c_100]
              rw [show stepG sr f9 take inner (hereF sr f9 q.1) (advF q) = andR (andR (andR (andR (nR sr f9 1 0 7 (advF q)) (gR sr f9 60)) (vR sr f9)) (gR sr f9 58)) inner by rw [← e_124_63]; rfl]
              rw [andR_t (r := nR sr f9 1 0 7 (advF q)) c_295, andR_t c_304, andR_f c_311, andR_f c_311]
            rw [e]
            exact ⟨bzf c_311, hB_308, (((hS_119.trans hS_292).trans hS_301).trans hS_308)⟩
          · try simp only [b01_0, bz_0, Classical.not_not] at c_311
            refine r_aload_n (pc := 314) dX11_isStepRead_314 rfl (by first | rfl | exact isRefV_rf _) ?_
            refine rj_bipush (pc := 315) dX11_isStepRead_315 (by decide +kernel) ?_
            refine r_callV1 (pc := 317) dX11_isStepRead_317 qX11_isSign kX11_96 vX11_isSign (by exact isM.gx (by assumption)) rfl rfl (Nat.le_of_ble_eq_true rfl) (l_sign (q := (vR sr f9 (gR sr f9 60 (nR sr f9 1 0 7 (advF q)).2).2).2) (n + 4) hB_308 hT (vR_ok (gR_ok (by decide) (nR_ok (by decide) (adv_ok hq hl)))) (by decide)) (fun v_317 h_317 q_317 => ?_)
            obtain ⟨rfl, hB_317, hS_317⟩ := q_317
            refine rj_if_eq (pc := 320) (tgt := 337) dX11_isStepRead_320 (by decide) (by first | assumption | exact b01_r | exact bz_r | omega | (constructor <;> omega) | exact hM _ | exact hPo _ | exact hTa _ | exact hRo _) (fun c_320 => ?_) (fun c_320 => ?_)
            · try simp only [b01_0, bz_0, Classical.not_not] at c_320
              refine rj_iconst (pc := 337) dX11_isStepRead_337 ?_
              refine r_ireturn (pc := 338) .boolean dX11_isStepRead_338 rfl (by first | exact nar_J0 | exact nar_J1 | exact nar_b01 | exact nar_bz) ?_
              have e : (stepR sr f9 take inner it bh q) = (gR sr f9 58 (vR sr f9 (gR sr f9 60 (nR sr f9 1 0 7 (advF q)).2).2).2) := by
                unfold stepR
                rw [if_pos c_100]
                rw [show stepG sr f9 take inner (hereF sr f9 q.1) (advF q) = andR (andR (andR (andR (nR sr f9 1 0 7 (advF q)) (gR sr f9 60)) (vR sr f9)) (gR sr f9 58)) inner by rw [← e_124_63]; rfl]
                rw [andR_t (r := nR sr f9 1 0 7 (advF q)) c_295, andR_t c_304, andR_t c_311, andR_f c_320]
              rw [e]
              exact ⟨bzf c_320, hB_317, ((((hS_119.trans hS_292).trans hS_301).trans hS_308).trans hS_317)⟩
            · try simp only [b01_0, bz_0, Classical.not_not] at c_320
              refine r_aload_n (pc := 323) dX11_isStepRead_323 rfl (by first | rfl | exact isRefV_rf _) ?_
              refine r_iload_n (pc := 324) dX11_isStepRead_324 rfl ?_
              refine rj_iconst (pc := 325) dX11_isStepRead_325 ?_
              refine rj_iconst (pc := 326) dX11_isStepRead_326 ?_
              refine r_callV3 (pc := 327) dX11_isStepRead_327 qX11_isStepRead kX11_108 vX11_isStepRead (by exact isM.gx (by assumption)) rfl rfl (Nat.le_of_ble_eq_true rfl) (hIn hbh (gR sr f9 58 (vR sr f9 (gR sr f9 60 (nR sr f9 1 0 7 (advF q)).2).2).2).2 _ hB_317 (gR_ok (by decide) (vR_ok (gR_ok (by decide) (nR_ok (by decide) (adv_ok hq hl)))))) (fun v_327 h_327 q_327 => ?_)
              obtain ⟨rfl, hB_327, hS_327⟩ := q_327
              refine rj_if_eq (pc := 330) (tgt := 337) dX11_isStepRead_330 (by decide) (by first | assumption | exact b01_r | exact bz_r | omega | (constructor <;> omega) | exact hM _ | exact hPo _ | exact hTa _ | exact hRo _) (fun c_330 => ?_) (fun c_330 => ?_)
              · try simp only [b01_0, bz_0, Classical.not_not] at c_330
                refine rj_iconst (pc := 337) dX11_isStepRead_337 ?_
                refine r_ireturn (pc := 338) .boolean dX11_isStepRead_338 rfl (by first | exact nar_J0 | exact nar_J1 | exact nar_b01 | exact nar_bz) ?_
                have e : (stepR sr f9 take inner it bh q) = (inner (gR sr f9 58 (vR sr f9 (gR sr f9 60 (nR sr f9 1 0 7 (advF q)).2).2).2).2) := by
                  unfold stepR
                  rw [if_pos c_100]
                  rw [show stepG sr f9 take inner (hereF sr f9 q.1) (advF q) = andR (andR (andR (andR (nR sr f9 1 0 7 (advF q)) (gR sr f9 60)) (vR sr f9)) (gR sr f9 58)) inner by rw [← e_124_63]; rfl]
                  rw [andR_t (r := nR sr f9 1 0 7 (advF q)) c_295, andR_t c_304, andR_t c_311, andR_t c_320]
                rw [e]
                exact ⟨bzf c_330, hB_327, (((((hS_119.trans hS_292).trans hS_301).trans hS_308).trans hS_317).trans hS_327)⟩
              · try simp only [b01_0, bz_0, Classical.not_not] at c_330
                refine rj_iconst (pc := 333) dX11_isStepRead_333 ?_
                refine r_goto (pc := 334) (tgt := 338) dX11_isStepRead_334 (by decide) ?_
                refine r_ireturn (pc := 338) .boolean dX11_isStepRead_338 rfl (by first | exact nar_J0 | exact nar_J1 | exact nar_b01 | exact nar_bz) ?_
                have e : (stepR sr f9 take inner it bh q) = (inner (gR sr f9 58 (vR sr f9 (gR sr f9 60 (nR sr f9 1 0 7 (advF q)).2).2).2).2) := by
                  unfold stepR
                  rw [if_pos c_100]
                  rw [show stepG sr f9 take inner (hereF sr f9 q.1) (advF q) = andR (andR (andR (andR (nR sr f9 1 0 7 (advF q)) (gR sr f9 60)) (vR sr f9)) (gR sr f9 58)) inner by rw [← e_124_63]; rfl]
                  rw [andR_t (r := nR sr f9 1 0 7 (advF q)) c_295, andR_t c_304, andR_t c_311, andR_t c_320]
                rw [e]
                exact ⟨bzt c_330, hB_327, (((((hS_119.trans hS_292).trans hS_301).trans hS_308).trans hS_317).trans hS_327)⟩
    rw [if_neg e_124_63] at ho_124
    by_cases e_124_97 : (97 : Int) = (hereF sr f9 q.1)
    · rw [if_pos e_124_97] at ho_124
      obtain rfl : tgt_124 = 234 := by omega
      refine r_aload_n (pc := 234) dX11_isStepRead_234 rfl (by first | rfl | exact isRefV_rf _) ?_
      refine r_iload_n (pc := 235) dX11_isStepRead_235 rfl ?_
      refine r_callV1 (pc := 236) dX11_isStepRead_236 qX11_isTakeRead kX11_105 vX11_isTakeRead (by exact isM.gx (by assumption)) rfl rfl (Nat.le_of_ble_eq_true rfl) (hTk (advF q) _ hB_119 (adv_ok hq hl)) (fun v_236 h_236 q_236 => ?_)
      obtain ⟨rfl, hB_236, hS_236⟩ := q_236
      refine r_ireturn (pc := 239) .boolean dX11_isStepRead_239 rfl (by first | exact nar_J0 | exact nar_J1 | exact nar_b01 | exact nar_bz) ?_
      have e : (stepR sr f9 take inner it bh q) = (take (advF q)) := by
        unfold stepR
        rw [if_pos c_100]
        rw [show stepG sr f9 take inner (hereF sr f9 q.1) (advF q) = take (advF q) by rw [← e_124_97]; rfl]
      rw [e]
      exact ⟨rfl, hB_236, (hS_119.trans hS_236)⟩
    rw [if_neg e_124_97] at ho_124
    by_cases e_124_107 : (107 : Int) = (hereF sr f9 q.1)
    · rw [if_pos e_124_107] at ho_124
      obtain rfl : tgt_124 = 278 := by omega
      refine r_aload_n (pc := 278) dX11_isStepRead_278 rfl (by first | rfl | exact isRefV_rf _) ?_
      refine rj_iconst (pc := 279) dX11_isStepRead_279 ?_
      refine rj_iconst (pc := 280) dX11_isStepRead_280 ?_
      refine rj_bipush (pc := 281) dX11_isStepRead_281 (by decide +kernel) ?_
      refine r_callV3 (pc := 283) dX11_isStepRead_283 qX11_isNumber kX11_85 vX11_isNumber (by exact isM.gx (by assumption)) rfl rfl (Nat.le_of_ble_eq_true rfl) (l_number (q := advF q) (F := 1) (lo := 0) (hi := 9) (n + 2) hB_119 hT (adv_ok hq hl) (by decide) (by decide) (by decide)) (fun v_283 h_283 q_283 => ?_)
      obtain ⟨rfl, hB_283, hS_283⟩ := q_283
      refine r_ireturn (pc := 286) .boolean dX11_isStepRead_286 rfl (by first | exact nar_J0 | exact nar_J1 | exact nar_b01 | exact nar_bz) ?_
      have e : (stepR sr f9 take inner it bh q) = (nR sr f9 1 0 9 (advF q)) := by
        unfold stepR
        rw [if_pos c_100]
        rw [show stepG sr f9 take inner (hereF sr f9 q.1) (advF q) = nR sr f9 1 0 9 (advF q) by rw [← e_124_107]; rfl]
      rw [e]
      exact ⟨rfl, hB_283, (hS_119.trans hS_283)⟩
    rw [if_neg e_124_107] at ho_124
    by_cases e_124_109 : (109 : Int) = (hereF sr f9 q.1)
    · rw [if_pos e_124_109] at ho_124
      obtain rfl : tgt_124 = 245 := by omega
      refine r_aload_n (pc := 245) dX11_isStepRead_245 rfl (by first | rfl | exact isRefV_rf _) ?_
      refine r_callV0 (pc := 246) dX11_isStepRead_246 qX11_isName kX11_88 vX11_isName (by exact isM.gx (by assumption)) rfl rfl (Nat.le_of_ble_eq_true rfl) (l_name (q := advF q) (n + 3) hB_119 hT (adv_ok hq hl)) (fun v_246 h_246 q_246 => ?_)
      obtain ⟨rfl, hB_246, hS_246⟩ := q_246
      refine rj_if_eq (pc := 249) (tgt := 276) dX11_isStepRead_249 (by decide) (by first | assumption | exact b01_r | exact bz_r | omega | (constructor <;> omega) | exact hM _ | exact hPo _ | exact hTa _ | exact hRo _) (fun c_249 => ?_) (fun c_249 => ?_)
      · try simp only [b01_0, bz_0, Classical.not_not] at c_249
        refine rj_iconst (pc := 276) dX11_isStepRead_276 ?_
        refine r_ireturn (pc := 277) .boolean dX11_isStepRead_277 rfl (by first | exact nar_J0 | exact nar_J1 | exact nar_b01 | exact nar_bz) ?_
        have e : (stepR sr f9 take inner it bh q) = (aR sr f9 (advF q)) := by
          unfold stepR
          rw [if_pos c_100]
          rw [show stepG sr f9 take inner (hereF sr f9 q.1) (advF q) = andR (andR (aR sr f9 (advF q)) (gR sr f9 62)) (nR sr f9 2 0 99) by rw [← e_124_109]; rfl]
          rw [andR_f (r := aR sr f9 (advF q)) c_249, andR_f c_249]
        rw [e]
        exact ⟨bzf c_249, hB_246, (hS_119.trans hS_246)⟩
      · try simp only [b01_0, bz_0, Classical.not_not] at c_249
        refine r_aload_n (pc := 252) dX11_isStepRead_252 rfl (by first | rfl | exact isRefV_rf _) ?_
        refine rj_bipush (pc := 253) dX11_isStepRead_253 (by decide +kernel) ?_
        refine r_callV1 (pc := 255) dX11_isStepRead_255 qX11_isSign kX11_96 vX11_isSign (by exact isM.gx (by assumption)) rfl rfl (Nat.le_of_ble_eq_true rfl) (l_sign (q := (aR sr f9 (advF q)).2) (n + 4) hB_246 hT (aR_ok (adv_ok hq hl)) (by decide)) (fun v_255 h_255 q_255 => ?_)
        obtain ⟨rfl, hB_255, hS_255⟩ := q_255
        refine rj_if_eq (pc := 258) (tgt := 276) dX11_isStepRead_258 (by decide) (by first | assumption | exact b01_r | exact bz_r | omega | (constructor <;> omega) | exact hM _ | exact hPo _ | exact hTa _ | exact hRo _) (fun c_258 => ?_) (fun c_258 => ?_)
        · try simp only [b01_0, bz_0, Classical.not_not] at c_258
          refine rj_iconst (pc := 276) dX11_isStepRead_276 ?_
          refine r_ireturn (pc := 277) .boolean dX11_isStepRead_277 rfl (by first | exact nar_J0 | exact nar_J1 | exact nar_b01 | exact nar_bz) ?_
          have e : (stepR sr f9 take inner it bh q) = (gR sr f9 62 (aR sr f9 (advF q)).2) := by
            unfold stepR
            rw [if_pos c_100]
            rw [show stepG sr f9 take inner (hereF sr f9 q.1) (advF q) = andR (andR (aR sr f9 (advF q)) (gR sr f9 62)) (nR sr f9 2 0 99) by rw [← e_124_109]; rfl]
            rw [andR_t (r := aR sr f9 (advF q)) c_249, andR_f c_258]
          rw [e]
          exact ⟨bzf c_258, hB_255, ((hS_119.trans hS_246).trans hS_255)⟩
        · try simp only [b01_0, bz_0, Classical.not_not] at c_258
          refine r_aload_n (pc := 261) dX11_isStepRead_261 rfl (by first | rfl | exact isRefV_rf _) ?_
          refine rj_iconst (pc := 262) dX11_isStepRead_262 ?_
          refine rj_iconst (pc := 263) dX11_isStepRead_263 ?_
          refine rj_bipush (pc := 264) dX11_isStepRead_264 (by decide +kernel) ?_
          refine r_callV3 (pc := 266) dX11_isStepRead_266 qX11_isNumber kX11_85 vX11_isNumber (by exact isM.gx (by assumption)) rfl rfl (Nat.le_of_ble_eq_true rfl) (l_number (q := (gR sr f9 62 (aR sr f9 (advF q)).2).2) (F := 2) (lo := 0) (hi := 99) (n + 2) hB_255 hT (gR_ok (by decide) (aR_ok (adv_ok hq hl))) (by decide) (by decide) (by decide)) (fun v_266 h_266 q_266 => ?_)
          obtain ⟨rfl, hB_266, hS_266⟩ := q_266
          refine rj_if_eq (pc := 269) (tgt := 276) dX11_isStepRead_269 (by decide) (by first | assumption | exact b01_r | exact bz_r | omega | (constructor <;> omega) | exact hM _ | exact hPo _ | exact hTa _ | exact hRo _) (fun c_269 => ?_) (fun c_269 => ?_)
          · try simp only [b01_0, bz_0, Classical.not_not] at c_269
            refine rj_iconst (pc := 276) dX11_isStepRead_276 ?_
            refine r_ireturn (pc := 277) .boolean dX11_isStepRead_277 rfl (by first | exact nar_J0 | exact nar_J1 | exact nar_b01 | exact nar_bz) ?_
            have e : (stepR sr f9 take inner it bh q) = (nR sr f9 2 0 99 (gR sr f9 62 (aR sr f9 (advF q)).2).2) := by
              unfold stepR
              rw [if_pos c_100]
              rw [show stepG sr f9 take inner (hereF sr f9 q.1) (advF q) = andR (andR (aR sr f9 (advF q)) (gR sr f9 62)) (nR sr f9 2 0 99) by rw [← e_124_109]; rfl]
              rw [andR_t (r := aR sr f9 (advF q)) c_249, andR_t c_258]
            rw [e]
            exact ⟨bzf c_269, hB_266, (((hS_119.trans hS_246).trans hS_255).trans hS_266)⟩
          · try simp only [b01_0, bz_0, Classical.not_not] at c_269
            refine rj_iconst (pc := 272) dX11_isStepRead_272 ?_
            refine r_goto (pc := 273) (tgt := 277) dX11_isStepRead_273 (by decide) ?_
            refine r_ireturn (pc := 277) .boolean dX11_isStepRead_277 rfl (by first | exact nar_J0 | exact nar_J1 | exact nar_b01 | exact nar_bz) ?_
            have e : (stepR sr f9 take inner it bh q) = (nR sr f9 2 0 99 (gR sr f9 62 (aR sr f9 (advF q)).2).2) := by
              unfold stepR
              rw [if_pos c_100]
              rw [show stepG sr f9 take inner (hereF sr f9 q.1) (advF q) = andR (andR (aR sr f9 (advF q)) (gR sr f9 62)) (nR sr f9 2 0 99) by rw [← e_124_109]; rfl]
              rw [andR_t (r := aR sr f9 (advF q)) c_249, andR_t c_258]
            rw [e]
            exact ⟨bzt c_269, hB_266, (((hS_119.trans hS_246).trans hS_255).trans hS_266)⟩
    rw [if_neg e_124_109] at ho_124
    by_cases e_124_120 : (120 : Int) = (hereF sr f9 q.1)
    · rw [if_pos e_124_120] at ho_124
      obtain rfl : tgt_124 = 240 := by omega
      refine r_aload_n (pc := 240) dX11_isStepRead_240 rfl (by first | rfl | exact isRefV_rf _) ?_
      refine r_callV0 (pc := 241) dX11_isStepRead_241 qX11_isName kX11_88 vX11_isName (by exact isM.gx (by assumption)) rfl rfl (Nat.le_of_ble_eq_true rfl) (l_name (q := advF q) (n + 3) hB_119 hT (adv_ok hq hl)) (fun v_241 h_241 q_241 => ?_)
      obtain ⟨rfl, hB_241, hS_241⟩ := q_241
      refine r_ireturn (pc := 244) .boolean dX11_isStepRead_244 rfl (by first | exact nar_J0 | exact nar_J1 | exact nar_b01 | exact nar_bz) ?_
      have e : (stepR sr f9 take inner it bh q) = (aR sr f9 (advF q)) := by
        unfold stepR
        rw [if_pos c_100]
        rw [show stepG sr f9 take inner (hereF sr f9 q.1) (advF q) = (aR sr f9 (advF q)) by rw [← e_124_120]; rfl]
      rw [e]
      exact ⟨rfl, hB_241, (hS_119.trans hS_241)⟩
    rw [if_neg e_124_120] at ho_124
    obtain rfl : tgt_124 = 339 := by omega
    refine r_aload_n (pc := 339) dX11_isStepRead_339 rfl (by first | rfl | exact isRefV_rf _) ?_
    refine r_dup (pc := 340) dX11_isStepRead_340 (by first | rfl | (cases ‹Option Nat› <;> rfl)) ?_
    refine rm_getf (pc := 341) dX11_isStepRead_341 fX11_99 (by assumption) rfl ?_
    refine r_iload (pc := 344) dX11_isStepRead_344 rfl ?_
    refine rj_bipush (pc := 346) dX11_isStepRead_346 (by decide +kernel) ?_
    refine rj_icmp_ne (pc := 348) (tgt := 355) dX11_isStepRead_348 (by decide) (by first | assumption | exact b01_r | exact bz_r | omega | (constructor <;> omega) | exact hM _ | exact hPo _ | exact hTa _ | exact hRo _) (by first | assumption | exact b01_r | exact bz_r | omega | (constructor <;> omega) | exact hM _ | exact hPo _ | exact hTa _ | exact hRo _) (fun c_348 => ?_) (fun c_348 => ?_)
    · refine r_iload (pc := 355) dX11_isStepRead_355 rfl ?_
      refine rj_bipush (pc := 357) dX11_isStepRead_357 (by decide +kernel) ?_
      refine rj_icmp_ne (pc := 359) (tgt := 366) dX11_isStepRead_359 (by decide) (by first | assumption | exact b01_r | exact bz_r | omega | (constructor <;> omega) | exact hM _ | exact hPo _ | exact hTa _ | exact hRo _) (by first | assumption | exact b01_r | exact bz_r | omega | (constructor <;> omega) | exact hM _ | exact hPo _ | exact hTa _ | exact hRo _) (fun c_359 => ?_) (fun c_359 => ?_)
      · refine rj_iconst (pc := 366) dX11_isStepRead_366 ?_
        refine rj_iadd (pc := 367) dX11_isStepRead_367 ?_
        refine rm_putf (pc := 368) dX11_isStepRead_368 fX11_99 (by assumption) rfl rfl (Nat.le_of_ble_eq_true rfl) (fun h_368 hB_368 hS_368 => ?_)
        dsimp only [List.set, mFs] at hB_368
        refine rj_iconst (pc := 371) dX11_isStepRead_371 ?_
        refine r_ireturn (pc := 372) .boolean dX11_isStepRead_372 rfl (by first | exact nar_J0 | exact nar_J1 | exact nar_b01 | exact nar_bz) ?_
        have e : (stepR sr f9 take inner it bh q) = (true, openF (hereF sr f9 q.1) (advF q)) := by
          unfold stepR
          rw [if_pos c_100]
          unfold stepG
          rw [if_neg (fun g => e_124_43 g.symm), if_neg (fun g => e_124_33 g.symm), if_neg (fun g => e_124_97 g.symm), if_neg (fun g => e_124_120 g.symm), if_neg (fun g => e_124_109 g.symm), if_neg (fun g => e_124_107 g.symm), if_neg (fun g => e_124_63 g.symm)]
        rw [e]
        refine ⟨bzT, ?_, hS_119.trans hS_368⟩
        unfold openF
        rw [if_neg c_348, if_neg c_359]
        exact hB_368
      · refine rj_iconst (pc := 362) dX11_isStepRead_362 ?_
        refine r_goto (pc := 363) (tgt := 367) dX11_isStepRead_363 (by decide) ?_
        refine rj_iadd (pc := 367) dX11_isStepRead_367 ?_
        refine rm_putf (pc := 368) dX11_isStepRead_368 fX11_99 (by assumption) rfl rfl (Nat.le_of_ble_eq_true rfl) (fun h_368 hB_368 hS_368 => ?_)
        dsimp only [List.set, mFs] at hB_368
        refine rj_iconst (pc := 371) dX11_isStepRead_371 ?_
        refine r_ireturn (pc := 372) .boolean dX11_isStepRead_372 rfl (by first | exact nar_J0 | exact nar_J1 | exact nar_b01 | exact nar_bz) ?_
        have e : (stepR sr f9 take inner it bh q) = (true, openF (hereF sr f9 q.1) (advF q)) := by
          unfold stepR
          rw [if_pos c_100]
          unfold stepG
          rw [if_neg (fun g => e_124_43 g.symm), if_neg (fun g => e_124_33 g.symm), if_neg (fun g => e_124_97 g.symm), if_neg (fun g => e_124_120 g.symm), if_neg (fun g => e_124_109 g.symm), if_neg (fun g => e_124_107 g.symm), if_neg (fun g => e_124_63 g.symm)]
        rw [e]
        refine ⟨bzT, ?_, hS_119.trans hS_368⟩
        unfold openF
        rw [if_neg c_348, if_pos c_359]
        exact hB_368
    · refine rj_iconst (pc := 351) dX11_isStepRead_351 ?_
      refine r_goto (pc := 352) (tgt := 367) dX11_isStepRead_352 (by decide) ?_
      refine rj_iadd (pc := 367) dX11_isStepRead_367 ?_
      refine rm_putf (pc := 368) dX11_isStepRead_368 fX11_99 (by assumption) rfl rfl (Nat.le_of_ble_eq_true rfl) (fun h_368 hB_368 hS_368 => ?_)
      dsimp only [List.set, mFs] at hB_368
      refine rj_iconst (pc := 371) dX11_isStepRead_371 ?_
      refine r_ireturn (pc := 372) .boolean dX11_isStepRead_372 rfl (by first | exact nar_J0 | exact nar_J1 | exact nar_b01 | exact nar_bz) ?_
      have e : (stepR sr f9 take inner it bh q) = (true, openF (hereF sr f9 q.1) (advF q)) := by
        unfold stepR
        rw [if_pos c_100]
        unfold stepG
        rw [if_neg (fun g => e_124_43 g.symm), if_neg (fun g => e_124_33 g.symm), if_neg (fun g => e_124_97 g.symm), if_neg (fun g => e_124_120 g.symm), if_neg (fun g => e_124_109 g.symm), if_neg (fun g => e_124_107 g.symm), if_neg (fun g => e_124_63 g.symm)]
      rw [e]
      refine ⟨bzT, ?_, hS_119.trans hS_368⟩
      unfold openF
      rw [if_pos c_348]
      exact hB_368
  · try simp only [b01_0, bz_0, Classical.not_not] at c_100
    refine r_aload_n (pc := 103) dX11_isStepRead_103 rfl (by first | rfl | exact isRefV_rf _) ?_
    refine r_aload_n (pc := 104) dX11_isStepRead_104 rfl (by first | rfl | exact isRefV_rf _) ?_
    refine rm_getf (pc := 105) dX11_isStepRead_105 fX11_65 (by assumption) rfl ?_
    refine r_callV1 (pc := 108) dX11_isStepRead_108 qX11_fails kX11_78 vX11_fails (by exact isM.gx (by assumption)) rfl rfl (Nat.le_of_ble_eq_true rfl) (m_fails (n + 5) hB0 hT hq) (fun v_108 h_108 q_108 => ?_)
    obtain ⟨rfl, hB_108, hS_108⟩ := q_108
    refine r_ireturn (pc := 111) .boolean dX11_isStepRead_111 rfl (by first | exact nar_J0 | exact nar_J1 | exact nar_b01 | exact nar_bz) ?_
    have e : (stepR sr f9 take inner it bh q) = (false, failF q.1 q) := by unfold stepR; rw [if_neg c_100]
    rw [e]
    exact ⟨bzF, hB_108, hS_108⟩
set_option maxHeartbeats 4000000 in
set_option maxRecDepth 100000 in
theorem m_isStepRead {G : mG} {l : Launch} (d : Nat) {h : mH} {x s : Nat} {f4 f6 f9 f14 f16 f18 : Int} {q : PS} {m kp was pool tape pln pap rwd rw sr : Nat → Int} (hB : isM h x (mFs x f4 f6 q.1 f9 q.2.1 q.2.2.1 q.2.2.2.1 q.2.2.2.2 f14 f16 f18 s) m kp was pool tape pln pap rwd rw) (hT : txOk s sr pool tape f9) (hq : psOk f9 q) {n : Nat} {w : Int} {it bh : Bool} {take inner : PS → Bool × PS} (hTk : ∀ (q : PS) (h : mH), isM h x (mFs x f4 f6 q.1 f9 q.2.1 q.2.2.1 q.2.2.2.1 q.2.2.2.2 f14 f16 f18 s) m kp was pool tape pln pap rwd rw → psOk f9 q → RUNM G l (n + 5) mX11_isTakeRead [.ref x, .int (J w)] h (fun v h' => v = some (.int (J (bz (take q).1))) ∧ isM h' x (mFs x f4 f6 ((take q).2).1 f9 ((take q).2).2.1 ((take q).2).2.2.1 ((take q).2).2.2.2.1 ((take q).2).2.2.2.2 f14 f16 f18 s) m kp was pool tape pln pap rwd rw ∧ Same (mBlk x) h h')) (hIn : bh = false → ∀ (q : PS) (h : mH), isM h x (mFs x f4 f6 q.1 f9 q.2.1 q.2.2.1 q.2.2.2.1 q.2.2.2.2 f14 f16 f18 s) m kp was pool tape pln pap rwd rw → psOk f9 q → RUNM G l (n + 5) mX11_isStepRead [.ref x, .int (J w), .int (J 0), .int (J 1)] h (fun v h' => v = some (.int (J (bz (inner q).1))) ∧ isM h' x (mFs x f4 f6 ((inner q).2).1 f9 ((inner q).2).2.1 ((inner q).2).2.2.1 ((inner q).2).2.2.2.1 ((inner q).2).2.2.2.2 f14 f16 f18 s) m kp was pool tape pln pap rwd rw ∧ Same (mBlk x) h h')) : RUNM G l (n + 6) mX11_isStepRead [.ref x, .int (J w), .int (J (bz it)), .int (J (bz bh))] h (fun v h' => v = some (.int (J (bz (stepR sr f9 take inner it bh q).1))) ∧ isM h' x (mFs x f4 f6 ((stepR sr f9 take inner it bh q).2).1 f9 ((stepR sr f9 take inner it bh q).2).2.1 ((stepR sr f9 take inner it bh q).2).2.2.1 ((stepR sr f9 take inner it bh q).2).2.2.2.1 ((stepR sr f9 take inner it bh q).2).2.2.2.2 f14 f16 f18 s) m kp was pool tape pln pap rwd rw ∧ Same (mBlk x) h h') := by
  dsimp only [mFs] at hB
  refine RUNM.of (by decide +kernel) (Nat.le_of_ble_eq_true rfl) ?_
  have hB0 := hB
  obtain ⟨hq1, hq2, hq3, hq4, hq5, hq6, hq7, hq8⟩ := id hq
  obtain ⟨hs, hl0, hby⟩ := id hT
  have hh := here_r hT q.1
  refine r_aload_n (pc := 0) dX11_isStepRead_0 rfl (by first | rfl | exact isRefV_rf _) ?_
  refine r_callV0 (pc := 1) dX11_isStepRead_1 qX11_here kX11_74 vX11_here (by exact isM.gx (by assumption)) rfl rfl (Nat.le_of_ble_eq_true rfl) (m_here (n + 5) hB0 hT hq) (fun v_1 h_1 q_1 => ?_)
  obtain ⟨rfl, rfl⟩ := q_1
  refine r_istore (pc := 4) dX11_isStepRead_4 (Nat.le_of_ble_eq_true rfl) ?_
  dsimp only [lsSt, List.set, mLs, mEnt]
  refine r_iload (pc := 6) dX11_isStepRead_6 rfl ?_
  refine rj_bipush (pc := 8) dX11_isStepRead_8 (by decide +kernel) ?_
  refine rj_icmp_eq (pc := 10) (tgt := 91) dX11_isStepRead_10 (by decide) (by first | assumption | exact b01_r | exact bz_r | omega | (constructor <;> omega) | exact hM _ | exact hPo _ | exact hTa _ | exact hRo _) (by first | assumption | exact b01_r | exact bz_r | omega | (constructor <;> omega) | exact hM _ | exact hPo _ | exact hTa _ | exact hRo _) (fun c_10 => ?_) (fun c_10 => ?_)
  · refine rj_iconst (pc := 91) dX11_isStepRead_91 ?_
    refine r_goto (pc := 92) (tgt := 96) dX11_isStepRead_92 (by decide) ?_
    refine r_istore (pc := 96) dX11_isStepRead_96 (Nat.le_of_ble_eq_true rfl) ?_
    dsimp only [lsSt, List.set, mLs, mEnt]
    have ok : stepOk (hereF sr f9 q.1) it bh q := Or.inl c_10
    have z := L_step98 (G := G) (l := l) n (it := it) (bh := bh) hB0 hT hq hTk hIn
    rw [b01_t ok] at z
    exact z
  · refine r_iload (pc := 13) dX11_isStepRead_13 rfl ?_
    refine rj_bipush (pc := 15) dX11_isStepRead_15 (by decide +kernel) ?_
    refine rj_icmp_eq (pc := 17) (tgt := 91) dX11_isStepRead_17 (by decide) (by first | assumption | exact b01_r | exact bz_r | omega | (constructor <;> omega) | exact hM _ | exact hPo _ | exact hTa _ | exact hRo _) (by first | assumption | exact b01_r | exact bz_r | omega | (constructor <;> omega) | exact hM _ | exact hPo _ | exact hTa _ | exact hRo _) (fun c_17 => ?_) (fun c_17 => ?_)
    · refine rj_iconst (pc := 91) dX11_isStepRead_91 ?_
      refine r_goto (pc := 92) (tgt := 96) dX11_isStepRead_92 (by decide) ?_
      refine r_istore (pc := 96) dX11_isStepRead_96 (Nat.le_of_ble_eq_true rfl) ?_
      dsimp only [lsSt, List.set, mLs, mEnt]
      have ok : stepOk (hereF sr f9 q.1) it bh q := Or.inr (Or.inl c_17)
      have z := L_step98 (G := G) (l := l) n (it := it) (bh := bh) hB0 hT hq hTk hIn
      rw [b01_t ok] at z
      exact z
    · refine r_iload (pc := 20) dX11_isStepRead_20 rfl ?_
      refine rj_bipush (pc := 22) dX11_isStepRead_22 (by decide +kernel) ?_
      refine rj_icmp_eq (pc := 24) (tgt := 91) dX11_isStepRead_24 (by decide) (by first | assumption | exact b01_r | exact bz_r | omega | (constructor <;> omega) | exact hM _ | exact hPo _ | exact hTa _ | exact hRo _) (by first | assumption | exact b01_r | exact bz_r | omega | (constructor <;> omega) | exact hM _ | exact hPo _ | exact hTa _ | exact hRo _) (fun c_24 => ?_) (fun c_24 => ?_)
      · refine rj_iconst (pc := 91) dX11_isStepRead_91 ?_
        refine r_goto (pc := 92) (tgt := 96) dX11_isStepRead_92 (by decide) ?_
        refine r_istore (pc := 96) dX11_isStepRead_96 (Nat.le_of_ble_eq_true rfl) ?_
        dsimp only [lsSt, List.set, mLs, mEnt]
        have ok : stepOk (hereF sr f9 q.1) it bh q := Or.inr (Or.inr (Or.inl c_24))
        have z := L_step98 (G := G) (l := l) n (it := it) (bh := bh) hB0 hT hq hTk hIn
        rw [b01_t ok] at z
        exact z
      · refine r_iload (pc := 27) dX11_isStepRead_27 rfl ?_
        refine rj_bipush (pc := 29) dX11_isStepRead_29 (by decide +kernel) ?_
        refine rj_icmp_eq (pc := 31) (tgt := 91) dX11_isStepRead_31 (by decide) (by first | assumption | exact b01_r | exact bz_r | omega | (constructor <;> omega) | exact hM _ | exact hPo _ | exact hTa _ | exact hRo _) (by first | assumption | exact b01_r | exact bz_r | omega | (constructor <;> omega) | exact hM _ | exact hPo _ | exact hTa _ | exact hRo _) (fun c_31 => ?_) (fun c_31 => ?_)
        · refine rj_iconst (pc := 91) dX11_isStepRead_91 ?_
          refine r_goto (pc := 92) (tgt := 96) dX11_isStepRead_92 (by decide) ?_
          refine r_istore (pc := 96) dX11_isStepRead_96 (Nat.le_of_ble_eq_true rfl) ?_
          dsimp only [lsSt, List.set, mLs, mEnt]
          have ok : stepOk (hereF sr f9 q.1) it bh q := Or.inr (Or.inr (Or.inr (Or.inl c_31)))
          have z := L_step98 (G := G) (l := l) n (it := it) (bh := bh) hB0 hT hq hTk hIn
          rw [b01_t ok] at z
          exact z
        · refine r_iload (pc := 34) dX11_isStepRead_34 rfl ?_
          refine rj_bipush (pc := 36) dX11_isStepRead_36 (by decide +kernel) ?_
          refine rj_icmp_eq (pc := 38) (tgt := 91) dX11_isStepRead_38 (by decide) (by first | assumption | exact b01_r | exact bz_r | omega | (constructor <;> omega) | exact hM _ | exact hPo _ | exact hTa _ | exact hRo _) (by first | assumption | exact b01_r | exact bz_r | omega | (constructor <;> omega) | exact hM _ | exact hPo _ | exact hTa _ | exact hRo _) (fun c_38 => ?_) (fun c_38 => ?_)
          · refine rj_iconst (pc := 91) dX11_isStepRead_91 ?_
            refine r_goto (pc := 92) (tgt := 96) dX11_isStepRead_92 (by decide) ?_
            refine r_istore (pc := 96) dX11_isStepRead_96 (Nat.le_of_ble_eq_true rfl) ?_
            dsimp only [lsSt, List.set, mLs, mEnt]
            have ok : stepOk (hereF sr f9 q.1) it bh q := Or.inr (Or.inr (Or.inr (Or.inr (Or.inl c_38))))
            have z := L_step98 (G := G) (l := l) n (it := it) (bh := bh) hB0 hT hq hTk hIn
            rw [b01_t ok] at z
            exact z
          · refine r_iload (pc := 41) dX11_isStepRead_41 rfl ?_
            refine rj_bipush (pc := 43) dX11_isStepRead_43 (by decide +kernel) ?_
            refine rj_icmp_eq (pc := 45) (tgt := 91) dX11_isStepRead_45 (by decide) (by first | assumption | exact b01_r | exact bz_r | omega | (constructor <;> omega) | exact hM _ | exact hPo _ | exact hTa _ | exact hRo _) (by first | assumption | exact b01_r | exact bz_r | omega | (constructor <;> omega) | exact hM _ | exact hPo _ | exact hTa _ | exact hRo _) (fun c_45 => ?_) (fun c_45 => ?_)
            · refine rj_iconst (pc := 91) dX11_isStepRead_91 ?_
              refine r_goto (pc := 92) (tgt := 96) dX11_isStepRead_92 (by decide) ?_
              refine r_istore (pc := 96) dX11_isStepRead_96 (Nat.le_of_ble_eq_true rfl) ?_
              dsimp only [lsSt, List.set, mLs, mEnt]
              have ok : stepOk (hereF sr f9 q.1) it bh q := Or.inr (Or.inr (Or.inr (Or.inr (Or.inr (Or.inl c_45)))))
              have z := L_step98 (G := G) (l := l) n (it := it) (bh := bh) hB0 hT hq hTk hIn
              rw [b01_t ok] at z
              exact z
            · refine r_iload (pc := 48) dX11_isStepRead_48 rfl ?_
              refine rj_bipush (pc := 50) dX11_isStepRead_50 (by decide +kernel) ?_
              refine rj_icmp_eq (pc := 52) (tgt := 91) dX11_isStepRead_52 (by decide) (by first | assumption | exact b01_r | exact bz_r | omega | (constructor <;> omega) | exact hM _ | exact hPo _ | exact hTa _ | exact hRo _) (by first | assumption | exact b01_r | exact bz_r | omega | (constructor <;> omega) | exact hM _ | exact hPo _ | exact hTa _ | exact hRo _) (fun c_52 => ?_) (fun c_52 => ?_)
              · refine rj_iconst (pc := 91) dX11_isStepRead_91 ?_
                refine r_goto (pc := 92) (tgt := 96) dX11_isStepRead_92 (by decide) ?_
                refine r_istore (pc := 96) dX11_isStepRead_96 (Nat.le_of_ble_eq_true rfl) ?_
                dsimp only [lsSt, List.set, mLs, mEnt]
                have ok : stepOk (hereF sr f9 q.1) it bh q := Or.inr (Or.inr (Or.inr (Or.inr (Or.inr (Or.inr (Or.inl c_52))))))
                have z := L_step98 (G := G) (l := l) n (it := it) (bh := bh) hB0 hT hq hTk hIn
                rw [b01_t ok] at z
                exact z
              · refine r_iload (pc := 55) dX11_isStepRead_55 rfl ?_
                refine rj_bipush (pc := 57) dX11_isStepRead_57 (by decide +kernel) ?_
                refine rj_icmp_ne (pc := 59) (tgt := 66) dX11_isStepRead_59 (by decide) (by first | assumption | exact b01_r | exact bz_r | omega | (constructor <;> omega) | exact hM _ | exact hPo _ | exact hTa _ | exact hRo _) (by first | assumption | exact b01_r | exact bz_r | omega | (constructor <;> omega) | exact hM _ | exact hPo _ | exact hTa _ | exact hRo _) (fun c_59 => ?_) (fun c_59 => ?_)
                · refine r_iload (pc := 66) dX11_isStepRead_66 rfl ?_
                  refine rj_bipush (pc := 68) dX11_isStepRead_68 (by decide +kernel) ?_
                  refine rj_icmp_eq (pc := 70) (tgt := 87) dX11_isStepRead_70 (by decide) (by first | assumption | exact b01_r | exact bz_r | omega | (constructor <;> omega) | exact hM _ | exact hPo _ | exact hTa _ | exact hRo _) (by first | assumption | exact b01_r | exact bz_r | omega | (constructor <;> omega) | exact hM _ | exact hPo _ | exact hTa _ | exact hRo _) (fun c_70 => ?_) (fun c_70 => ?_)
                  · refine r_iload_n (pc := 87) dX11_isStepRead_87 rfl ?_
                    refine rj_if_eq (pc := 88) (tgt := 95) dX11_isStepRead_88 (by decide) (by first | assumption | exact b01_r | exact bz_r | omega | (constructor <;> omega) | exact hM _ | exact hPo _ | exact hTa _ | exact hRo _) (fun c_88 => ?_) (fun c_88 => ?_)
                    · try simp only [b01_0, bz_0, Classical.not_not] at c_88
                      refine rj_iconst (pc := 95) dX11_isStepRead_95 ?_
                      refine r_istore (pc := 96) dX11_isStepRead_96 (Nat.le_of_ble_eq_true rfl) ?_
                      dsimp only [lsSt, List.set, mLs, mEnt]
                      have ok : ¬ stepOk (hereF sr f9 q.1) it bh q := by
                        intro g
                        rcases g with g | g | g | g | g | g | g | ⟨g1, g2⟩ | ⟨g1 | ⟨g1, g3⟩, g2⟩ <;> first | omega | (simp_all; done) | (simp_all; omega)
                      have z := L_step98 (G := G) (l := l) n (it := it) (bh := bh) hB0 hT hq hTk hIn
                      rw [b01_f ok] at z
                      exact z
                    · try simp only [b01_0, bz_0, Classical.not_not] at c_88
                      refine rj_iconst (pc := 91) dX11_isStepRead_91 ?_
                      refine r_goto (pc := 92) (tgt := 96) dX11_isStepRead_92 (by decide) ?_
                      refine r_istore (pc := 96) dX11_isStepRead_96 (Nat.le_of_ble_eq_true rfl) ?_
                      dsimp only [lsSt, List.set, mLs, mEnt]
                      have ok : stepOk (hereF sr f9 q.1) it bh q := Or.inr (Or.inr (Or.inr (Or.inr (Or.inr (Or.inr (Or.inr (Or.inr (⟨Or.inl c_70, c_88⟩))))))))
                      have z := L_step98 (G := G) (l := l) n (it := it) (bh := bh) hB0 hT hq hTk hIn
                      rw [b01_t ok] at z
                      exact z
                  · refine r_iload (pc := 73) dX11_isStepRead_73 rfl ?_
                    refine rj_bipush (pc := 75) dX11_isStepRead_75 (by decide +kernel) ?_
                    refine rj_icmp_ne (pc := 77) (tgt := 95) dX11_isStepRead_77 (by decide) (by first | assumption | exact b01_r | exact bz_r | omega | (constructor <;> omega) | exact hM _ | exact hPo _ | exact hTa _ | exact hRo _) (by first | assumption | exact b01_r | exact bz_r | omega | (constructor <;> omega) | exact hM _ | exact hPo _ | exact hTa _ | exact hRo _) (fun c_77 => ?_) (fun c_77 => ?_)
                    · refine rj_iconst (pc := 95) dX11_isStepRead_95 ?_
                      refine r_istore (pc := 96) dX11_isStepRead_96 (Nat.le_of_ble_eq_true rfl) ?_
                      dsimp only [lsSt, List.set, mLs, mEnt]
                      have ok : ¬ stepOk (hereF sr f9 q.1) it bh q := by
                        intro g
                        rcases g with g | g | g | g | g | g | g | ⟨g1, g2⟩ | ⟨g1 | ⟨g1, g3⟩, g2⟩ <;> first | omega | (simp_all; done) | (simp_all; omega)
                      have z := L_step98 (G := G) (l := l) n (it := it) (bh := bh) hB0 hT hq hTk hIn
                      rw [b01_f ok] at z
                      exact z
                    · refine r_aload_n (pc := 80) dX11_isStepRead_80 rfl (by first | rfl | exact isRefV_rf _) ?_
                      refine rm_getf (pc := 81) dX11_isStepRead_81 fX11_99 (by assumption) rfl ?_
                      refine rj_if_le (pc := 84) (tgt := 95) dX11_isStepRead_84 (by decide) (by first | assumption | exact b01_r | exact bz_r | omega | (constructor <;> omega) | exact hM _ | exact hPo _ | exact hTa _ | exact hRo _) (fun c_84 => ?_) (fun c_84 => ?_)
                      · refine rj_iconst (pc := 95) dX11_isStepRead_95 ?_
                        refine r_istore (pc := 96) dX11_isStepRead_96 (Nat.le_of_ble_eq_true rfl) ?_
                        dsimp only [lsSt, List.set, mLs, mEnt]
                        have ok : ¬ stepOk (hereF sr f9 q.1) it bh q := by
                          intro g
                          rcases g with g | g | g | g | g | g | g | ⟨g1, g2⟩ | ⟨g1 | ⟨g1, g3⟩, g2⟩ <;> first | omega | (simp_all; done) | (simp_all; omega)
                        have z := L_step98 (G := G) (l := l) n (it := it) (bh := bh) hB0 hT hq hTk hIn
                        rw [b01_f ok] at z
                        exact z
                      · refine r_iload_n (pc := 87) dX11_isStepRead_87 rfl ?_
                        refine rj_if_eq (pc := 88) (tgt := 95) dX11_isStepRead_88 (by decide) (by first | assumption | exact b01_r | exact bz_r | omega | (constructor <;> omega) | exact hM _ | exact hPo _ | exact hTa _ | exact hRo _) (fun c_88 => ?_) (fun c_88 => ?_)
                        · try simp only [b01_0, bz_0, Classical.not_not] at c_88
                          refine rj_iconst (pc := 95) dX11_isStepRead_95 ?_
                          refine r_istore (pc := 96) dX11_isStepRead_96 (Nat.le_of_ble_eq_true rfl) ?_
                          dsimp only [lsSt, List.set, mLs, mEnt]
                          have ok : ¬ stepOk (hereF sr f9 q.1) it bh q := by
                            intro g
                            rcases g with g | g | g | g | g | g | g | ⟨g1, g2⟩ | ⟨g1 | ⟨g1, g3⟩, g2⟩ <;> first | omega | (simp_all; done) | (simp_all; omega)
                          have z := L_step98 (G := G) (l := l) n (it := it) (bh := bh) hB0 hT hq hTk hIn
                          rw [b01_f ok] at z
                          exact z
                        · try simp only [b01_0, bz_0, Classical.not_not] at c_88
                          refine rj_iconst (pc := 91) dX11_isStepRead_91 ?_
                          refine r_goto (pc := 92) (tgt := 96) dX11_isStepRead_92 (by decide) ?_
                          refine r_istore (pc := 96) dX11_isStepRead_96 (Nat.le_of_ble_eq_true rfl) ?_
                          dsimp only [lsSt, List.set, mLs, mEnt]
                          have ok : stepOk (hereF sr f9 q.1) it bh q := Or.inr (Or.inr (Or.inr (Or.inr (Or.inr (Or.inr (Or.inr (Or.inr (⟨Or.inr ⟨c_77, by omega⟩, c_88⟩))))))))
                          have z := L_step98 (G := G) (l := l) n (it := it) (bh := bh) hB0 hT hq hTk hIn
                          rw [b01_t ok] at z
                          exact z
                · refine r_iload_n (pc := 62) dX11_isStepRead_62 rfl ?_
                  refine rj_if_eq (pc := 63) (tgt := 91) dX11_isStepRead_63 (by decide) (by first | assumption | exact b01_r | exact bz_r | omega | (constructor <;> omega) | exact hM _ | exact hPo _ | exact hTa _ | exact hRo _) (fun c_63 => ?_) (fun c_63 => ?_)
                  · try simp only [b01_0, bz_0, Classical.not_not] at c_63
                    refine rj_iconst (pc := 91) dX11_isStepRead_91 ?_
                    refine r_goto (pc := 92) (tgt := 96) dX11_isStepRead_92 (by decide) ?_
                    refine r_istore (pc := 96) dX11_isStepRead_96 (Nat.le_of_ble_eq_true rfl) ?_
                    dsimp only [lsSt, List.set, mLs, mEnt]
                    have ok : stepOk (hereF sr f9 q.1) it bh q := Or.inr (Or.inr (Or.inr (Or.inr (Or.inr (Or.inr (Or.inr (Or.inl ⟨c_59, by simpa using c_63⟩)))))))
                    have z := L_step98 (G := G) (l := l) n (it := it) (bh := bh) hB0 hT hq hTk hIn
                    rw [b01_t ok] at z
                    exact z
                  · try simp only [b01_0, bz_0, Classical.not_not] at c_63
                    refine r_iload (pc := 66) dX11_isStepRead_66 rfl ?_
                    refine rj_bipush (pc := 68) dX11_isStepRead_68 (by decide +kernel) ?_
                    refine rj_icmp_eq (pc := 70) (tgt := 87) dX11_isStepRead_70 (by decide) (by first | assumption | exact b01_r | exact bz_r | omega | (constructor <;> omega) | exact hM _ | exact hPo _ | exact hTa _ | exact hRo _) (by first | assumption | exact b01_r | exact bz_r | omega | (constructor <;> omega) | exact hM _ | exact hPo _ | exact hTa _ | exact hRo _) (fun c_70 => ?_) (fun c_70 => ?_)
                    · refine r_iload_n (pc := 87) dX11_isStepRead_87 rfl ?_
                      refine rj_if_eq (pc := 88) (tgt := 95) dX11_isStepRead_88 (by decide) (by first | assumption | exact b01_r | exact bz_r | omega | (constructor <;> omega) | exact hM _ | exact hPo _ | exact hTa _ | exact hRo _) (fun c_88 => ?_) (fun c_88 => ?_)
                      · try simp only [b01_0, bz_0, Classical.not_not] at c_88
                        refine rj_iconst (pc := 95) dX11_isStepRead_95 ?_
                        refine r_istore (pc := 96) dX11_isStepRead_96 (Nat.le_of_ble_eq_true rfl) ?_
                        dsimp only [lsSt, List.set, mLs, mEnt]
                        have ok : ¬ stepOk (hereF sr f9 q.1) it bh q := by
                          intro g
                          rcases g with g | g | g | g | g | g | g | ⟨g1, g2⟩ | ⟨g1 | ⟨g1, g3⟩, g2⟩ <;> first | omega | (simp_all; done) | (simp_all; omega)
                        have z := L_step98 (G := G) (l := l) n (it := it) (bh := bh) hB0 hT hq hTk hIn
                        rw [b01_f ok] at z
                        exact z
                      · try simp only [b01_0, bz_0, Classical.not_not] at c_88
                        refine rj_iconst (pc := 91) dX11_isStepRead_91 ?_
                        refine r_goto (pc := 92) (tgt := 96) dX11_isStepRead_92 (by decide) ?_
                        refine r_istore (pc := 96) dX11_isStepRead_96 (Nat.le_of_ble_eq_true rfl) ?_
                        dsimp only [lsSt, List.set, mLs, mEnt]
                        have ok : stepOk (hereF sr f9 q.1) it bh q := Or.inr (Or.inr (Or.inr (Or.inr (Or.inr (Or.inr (Or.inr (Or.inr (⟨Or.inl c_70, c_88⟩))))))))
                        have z := L_step98 (G := G) (l := l) n (it := it) (bh := bh) hB0 hT hq hTk hIn
                        rw [b01_t ok] at z
                        exact z
                    · refine r_iload (pc := 73) dX11_isStepRead_73 rfl ?_
                      refine rj_bipush (pc := 75) dX11_isStepRead_75 (by decide +kernel) ?_
                      refine rj_icmp_ne (pc := 77) (tgt := 95) dX11_isStepRead_77 (by decide) (by first | assumption | exact b01_r | exact bz_r | omega | (constructor <;> omega) | exact hM _ | exact hPo _ | exact hTa _ | exact hRo _) (by first | assumption | exact b01_r | exact bz_r | omega | (constructor <;> omega) | exact hM _ | exact hPo _ | exact hTa _ | exact hRo _) (fun c_77 => ?_) (fun c_77 => ?_)
                      · refine rj_iconst (pc := 95) dX11_isStepRead_95 ?_
                        refine r_istore (pc := 96) dX11_isStepRead_96 (Nat.le_of_ble_eq_true rfl) ?_
                        dsimp only [lsSt, List.set, mLs, mEnt]
                        have ok : ¬ stepOk (hereF sr f9 q.1) it bh q := by
                          intro g
                          rcases g with g | g | g | g | g | g | g | ⟨g1, g2⟩ | ⟨g1 | ⟨g1, g3⟩, g2⟩ <;> first | omega | (simp_all; done) | (simp_all; omega)
                        have z := L_step98 (G := G) (l := l) n (it := it) (bh := bh) hB0 hT hq hTk hIn
                        rw [b01_f ok] at z
                        exact z
                      · refine r_aload_n (pc := 80) dX11_isStepRead_80 rfl (by first | rfl | exact isRefV_rf _) ?_
                        refine rm_getf (pc := 81) dX11_isStepRead_81 fX11_99 (by assumption) rfl ?_
                        refine rj_if_le (pc := 84) (tgt := 95) dX11_isStepRead_84 (by decide) (by first | assumption | exact b01_r | exact bz_r | omega | (constructor <;> omega) | exact hM _ | exact hPo _ | exact hTa _ | exact hRo _) (fun c_84 => ?_) (fun c_84 => ?_)
                        · refine rj_iconst (pc := 95) dX11_isStepRead_95 ?_
                          refine r_istore (pc := 96) dX11_isStepRead_96 (Nat.le_of_ble_eq_true rfl) ?_
                          dsimp only [lsSt, List.set, mLs, mEnt]
                          have ok : ¬ stepOk (hereF sr f9 q.1) it bh q := by
                            intro g
                            rcases g with g | g | g | g | g | g | g | ⟨g1, g2⟩ | ⟨g1 | ⟨g1, g3⟩, g2⟩ <;> first | omega | (simp_all; done) | (simp_all; omega)
                          have z := L_step98 (G := G) (l := l) n (it := it) (bh := bh) hB0 hT hq hTk hIn
                          rw [b01_f ok] at z
                          exact z
                        · refine r_iload_n (pc := 87) dX11_isStepRead_87 rfl ?_
                          refine rj_if_eq (pc := 88) (tgt := 95) dX11_isStepRead_88 (by decide) (by first | assumption | exact b01_r | exact bz_r | omega | (constructor <;> omega) | exact hM _ | exact hPo _ | exact hTa _ | exact hRo _) (fun c_88 => ?_) (fun c_88 => ?_)
                          · try simp only [b01_0, bz_0, Classical.not_not] at c_88
                            refine rj_iconst (pc := 95) dX11_isStepRead_95 ?_
                            refine r_istore (pc := 96) dX11_isStepRead_96 (Nat.le_of_ble_eq_true rfl) ?_
                            dsimp only [lsSt, List.set, mLs, mEnt]
                            have ok : ¬ stepOk (hereF sr f9 q.1) it bh q := by
                              intro g
                              rcases g with g | g | g | g | g | g | g | ⟨g1, g2⟩ | ⟨g1 | ⟨g1, g3⟩, g2⟩ <;> first | omega | (simp_all; done) | (simp_all; omega)
                            have z := L_step98 (G := G) (l := l) n (it := it) (bh := bh) hB0 hT hq hTk hIn
                            rw [b01_f ok] at z
                            exact z
                          · try simp only [b01_0, bz_0, Classical.not_not] at c_88
                            refine rj_iconst (pc := 91) dX11_isStepRead_91 ?_
                            refine r_goto (pc := 92) (tgt := 96) dX11_isStepRead_92 (by decide) ?_
                            refine r_istore (pc := 96) dX11_isStepRead_96 (Nat.le_of_ble_eq_true rfl) ?_
                            dsimp only [lsSt, List.set, mLs, mEnt]
                            have ok : stepOk (hereF sr f9 q.1) it bh q := Or.inr (Or.inr (Or.inr (Or.inr (Or.inr (Or.inr (Or.inr (Or.inr (⟨Or.inr ⟨c_77, by omega⟩, c_88⟩))))))))
                            have z := L_step98 (G := G) (l := l) n (it := it) (bh := bh) hB0 hT hq hTk hIn
                            rw [b01_t ok] at z
                            exact z
theorem fail_up {p : Int} {q : PS} : q.1 ≤ (failF p q).1 := Int.le_refl _
theorem adv_up {q : PS} : q.1 ≤ (advF q).1 := by show q.1 ≤ q.1 + 1; omega
theorem gR_up {sr : Nat → Int} {len c : Int} {q : PS} : q.1 ≤ (gR sr len c q).2.1 := by
  show q.1 ≤ (signF sr len c q).1
  unfold signF
  split
  · exact adv_up
  · exact fail_up
theorem numL_up {sr : Nat → Int} {len : Int} : ∀ (n : Nat) (q : PS), q.1 ≤ (numL sr len n q).1
  | 0, q => Int.le_refl _
  | n + 1, q => by
    unfold numL
    split
    · have := numL_up (sr := sr) (len := len) n (q.1 + 1, q.2.1, 10 * q.2.2.1 + hereF sr len q.1 - 48, q.2.2.2)
      dsimp only at this
      omega
    · exact Int.le_refl _
theorem nR_up {sr : Nat → Int} {len : Int} {n : Nat} {l m : Int} {q : PS} : q.1 ≤ (nR sr len n l m q).2.1 := by
  show q.1 ≤ (numberF sr len n l m q).1
  unfold numberF
  split
  · have := numL_up (sr := sr) (len := len) n (q.1, q.2.1, 0, q.2.2.2)
    dsimp only at this
    unfold finF
    split
    · exact this
    · exact this
  · exact fail_up
theorem vR_up {sr : Nat → Int} {len : Int} {q : PS} : q.1 ≤ (vR sr len q).2.1 := by
  have h := nR_up (sr := sr) (len := len) (n := 5) (l := 0) (m := 99999) (q := minusF sr len q)
  have h2 : q.1 ≤ (minusF sr len q).1 := by
    show q.1 ≤ q.1 + b01 _
    by_cases g : hereF sr len q.1 = 45
    · rw [b01_t g]; omega
    · rw [b01_f g]; omega
  exact Int.le_trans h2 h
theorem nameL_up {sr : Nat → Int} {len : Int} : ∀ (n : Nat) (q : PS), q.1 ≤ (nameL sr len n q).1
  | 0, q => Int.le_refl _
  | n + 1, q => by
    unfold nameL
    split
    · exact Int.le_trans adv_up (nameL_up n _)
    · exact Int.le_refl _
theorem aR_up {sr : Nat → Int} {len : Int} {q : PS} : q.1 ≤ (aR sr len q).2.1 := by
  show q.1 ≤ (nameF sr len q).1
  unfold nameF
  split
  · exact nameL_up 7 _
  · exact fail_up
/-- goes on, and stays well -/
def psUp (len : Int) (f : PS → Bool × PS) : Prop := ∀ q, psOk len q → psOk len (f q).2 ∧ q.1 ≤ (f q).2.1
theorem andR_upp {len : Int} {f g : PS → Bool × PS} (hf : psUp len f) (hg : psUp len g) : psUp len (fun q => andR (f q) g) := by
  intro q hq
  obtain ⟨a, b⟩ := hf q hq
  unfold andR
  dsimp only
  split
  · obtain ⟨c, d⟩ := hg _ a
    exact ⟨c, Int.le_trans b d⟩
  · exact ⟨a, b⟩
theorem gR_p {sr : Nat → Int} {len c : Int} (hc : c ≠ -1) : psUp len (gR sr len c) := fun q hq => ⟨gR_ok hc hq, gR_up⟩
theorem nR_p {sr : Nat → Int} {len : Int} {n : Nat} {l m : Int} (hn : n ≤ 5) : psUp len (nR sr len n l m) := fun q hq => ⟨nR_ok hn hq, nR_up⟩
theorem vR_p {sr : Nat → Int} {len : Int} : psUp len (vR sr len) := fun q hq => ⟨vR_ok hq, vR_up⟩
theorem aR_p {sr : Nat → Int} {len : Int} : psUp len (aR sr len) := fun q hq => ⟨aR_ok hq, aR_up⟩
theorem takeG_p {sr : Nat → Int} {len : Int} {steps : PS → Bool × PS} {w : Int} (hs : psUp len steps) : psUp len (takeG sr len steps w) := by
  refine andR_upp aR_p (fun q hq => ?_)
  try dsimp only
  split
  · rename_i h
    have hl := here_lt (sr := sr) (len := len) (a := q.1) (by omega)
    split
    · exact ⟨fail_ok hq hq.1 hq.2.1, fail_up⟩
    · obtain ⟨a, b⟩ := andR_upp hs (gR_p (sr := sr) (len := len) (c := 125) (by decide)) _ (adv_ok hq hl)
      exact ⟨a, Int.le_trans adv_up b⟩
  · exact ⟨hq, Int.le_refl _⟩
theorem open_p {len c : Int} {q : PS} (hq : psOk len q) (h1 : c = 41 → 0 < q.2.2.2.2) (h2 : q.2.2.2.2 ≤ q.1 + 89) : psOk len (openF c q) ∧ q.1 ≤ (openF c q).1 := by
  obtain ⟨a, b, cc, d, e, f, g, i⟩ := hq
  refine ⟨⟨a, b, cc, d, e, f, ?_, ?_⟩, Int.le_refl _⟩
  · unfold openF
    dsimp only
    split
    · omega
    · split
      · have := h1 (by assumption); omega
      · omega
  · unfold openF
    dsimp only
    split
    · omega
    · split <;> omega
theorem stepR_p {sr : Nat → Int} {len : Int} {take inner : PS → Bool × PS} {it bh : Bool} (ht : psUp len take) (hi : psUp len inner) : psUp len (stepR sr len take inner it bh) := by
  intro q hq
  unfold stepR
  split
  · rename_i ok
    have hl := here_lt (sr := sr) (len := len) (a := q.1) (by rcases ok with g | g | g | g | g | g | g | ⟨g, -⟩ | ⟨g | ⟨g, -⟩, -⟩ <;> omega)
    have hq1 := adv_ok hq hl
    have K : ∀ f : PS → Bool × PS, psUp len f → psOk len (f (advF q)).2 ∧ q.1 ≤ (f (advF q)).2.1 := fun f hf => ⟨(hf _ hq1).1, Int.le_trans adv_up (hf _ hq1).2⟩
    unfold stepG
    split
    · exact K (fun q => andR (andR (nR sr len 1 0 7 q) (gR sr len 61)) (vR sr len)) (andR_upp (andR_upp (nR_p (by decide)) (gR_p (by decide))) vR_p)
    · split
      · exact K _ (nR_p (by decide))
      · split
        · exact K _ ht
        · split
          · exact K _ aR_p
          · split
            · exact K (fun q => andR (andR (aR sr len q) (gR sr len 62)) (nR sr len 2 0 99)) (andR_upp (andR_upp aR_p (gR_p (by decide))) (nR_p (by decide)))
            · split
              · exact K _ (nR_p (by decide))
              · split
                · exact K (fun q => andR (andR (andR (andR (nR sr len 1 0 7 q) (gR sr len 60)) (vR sr len)) (gR sr len 58)) inner) (andR_upp (andR_upp (andR_upp (andR_upp (nR_p (by decide)) (gR_p (by decide))) vR_p) (gR_p (by decide))) hi)
                · obtain ⟨a, b⟩ := open_p (c := hereF sr len q.1) hq1 (fun g => by
                    show 0 < q.2.2.2.2
                    rcases ok with z | z | z | z | z | z | z | ⟨z, -⟩ | ⟨z | ⟨z, z2⟩, -⟩ <;> omega) (by
                    have := hq.2.2.2.2.2.2.2
                    show q.2.2.2.2 ≤ q.1 + 1 + 89
                    omega)
                  exact ⟨a, Int.le_trans adv_up b⟩
  · exact ⟨fail_ok hq hq.1 hq.2.1, fail_up⟩
