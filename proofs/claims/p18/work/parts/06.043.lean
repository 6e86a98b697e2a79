section mg_25
set_option maxHeartbeats 4000000 in
set_option maxRecDepth 100000 in
theorem L_step98 {G : mG} {l : Launch} (n : Nat) {h : mH} {x s : Nat} {f4 f6 f9 f14 f16 f18 : Int} {q : PS} {m kp was pool tape pln pap rwd rw sr : Nat → Int} (hB : isM h x (mFs x f4 f6 q.1 f9 q.2.1 q.2.2.1 q.2.2.2.1 q.2.2.2.2 f14 f16 f18 s) m kp was pool tape pln pap rwd rw) (hT : txOk s sr pool tape f9) (hq : psOk f9 q) {w : Int} {it bh : Bool} {take inner : PS → Bool × PS} (hTk : ∀ (q : PS) (h : mH), isM h x (mFs x f4 f6 q.1 f9 q.2.1 q.2.2.1 q.2.2.2.1 q.2.2.2.2 f14 f16 f18 s) m kp was pool tape pln pap rwd rw → psOk f9 q → RUNM G l (n + 5) mX11_isTakeRead [.ref x, .int (J w)] h (fun v h' => v = some (.int (J (bz (take q).1))) ∧ isM h' x (mFs x f4 f6 ((take q).2).1 f9 ((take q).2).2.1 ((take q).2).2.2.1 ((take q).2).2.2.2.1 ((take q).2).2.2.2.2 f14 f16 f18 s) m kp was pool tape pln pap rwd rw ∧ Same (mBlk x) h h')) (hIn : bh = false → ∀ (q : PS) (h : mH), isM h x (mFs x f4 f6 q.1 f9 q.2.1 q.2.2.1 q.2.2.2.1 q.2.2.2.2 f14 f16 f18 s) m kp was pool tape pln pap rwd rw → psOk f9 q → RUNM G l (n + 5) mX11_isStepRead [.ref x, .int (J w), .int (J 0), .int (J 1)] h (fun v h' => v = some (.int (J (bz (inner q).1))) ∧ isM h' x (mFs x f4 f6 ((inner q).2).1 f9 ((inner q).2).2.1 ((inner q).2).2.2.1 ((inner q).2).2.2.2.1 ((inner q).2).2.2.2.2 f14 f16 f18 s) m kp was pool tape pln pap rwd rw ∧ Same (mBlk x) h h')) : RUN G l (n + 6) mX11_isStepRead 98 [some (.ref x), some (.int (J w)), some (.int (J (bz it))), some (.int (J (bz bh))), some (.int (J (hereF sr f9 q.1))), some (.int (J (b01 (stepOk (hereF sr f9 q.1) it bh q))))] [] h (fun v h' => v = some (.int (J (bz (stepR sr f9 take inner it bh q).1))) ∧ isM h' x (mFs x f4 f6 ((stepR sr f9 take inner it bh q).2).1 f9 ((stepR sr f9 take inner it bh q).2).2.1 ((stepR sr f9 take inner it bh q).2).2.2.1 ((stepR sr f9 take inner it bh q).2).2.2.2.1 ((stepR sr f9 take inner it bh q).2).2.2.2.2 f14 f16 f18 s) m kp was pool tape pln pap rwd rw ∧ Same (mBlk x) h h') := by
  have hB0 := hB
  dsimp only [mFs] at hB
  obtain ⟨hq1, hq2, hq3, hq4, hq5, hq6, hq7, hq8⟩ := id hq
  obtain ⟨hs, hl0, hby⟩ := id hT
  have hh := here_r hT q.1
  refine r_iload (pc := 98) dX11_isStepRead_98 rfl ?_
  refine rj_if_ne (pc := 100) (tgt := 112) dX11_isStepRead_100 (by decide) (by first | assumption | exact b01_r | exact bz_r | omega | (constructor <;> omega) | exact hM _ | exact hPo _ | exact hTa _ | exact hRo _) (fun c_100 => ?_) (fun c_100 => ?_)
  · try simp only [b01_0, bz_0, Classical.not_not] at c_100
    have hl : q.1 < f9 := here_lt (sr := sr) (by rcases c_100 with g | g | g | g | g | g | g | g | g <;> omega)
    refine r_aload_n (pc := 112) dX11_isStepRead_112 rfl (by first | rfl | exact isRefV_rf _) ?_
    refine r_dup (pc := 113) dX11_isStepRead_113 (by first | rfl | (cases ‹Option Nat› <;> rfl)) ?_
    refine rm_getf (pc := 114) dX11_isStepRead_114 fX11_65 (by assumption) rfl ?_
    refine rj_iconst (pc := 117) dX11_isStepRead_117 ?_
    refine rj_iadd (pc := 118) dX11_isStepRead_118 ?_
    refine rm_putf (pc := 119) dX11_isStepRead_119 fX11_65 (by assumption) rfl rfl (Nat.le_of_ble_eq_true rfl) (fun h_119 hB_119 hS_119 => ?_)
    dsimp only [List.set, mFs] at hB_119
    refine r_iload (pc := 122) dX11_isStepRead_122 rfl ?_
    refine rj_lsw (pc := 124) dX11_isStepRead_124 rfl (by first | assumption | exact b01_r | exact bz_r | omega | (constructor <;> omega) | exact hM _ | exact hPo _ | exact hTa _ | exact hRo _) (lsw_pos _ (by decide +kernel) (by decide +kernel)) (fun off_124 tgt_124 ho_124 ht_124 => ?_)
    simp only [Op.lookupswitch.offset_cons, Op.lookupswitch.offset_nil] at ho_124
    by_cases e_124_33 : (33 : Int) = (hereF sr f9 q.1)
    · rw [if_pos e_124_33] at ho_124
      obtain rfl : tgt_124 = 225 := by omega
      refine r_aload_n (pc := 225) dX11_isStepRead_225 rfl (by first | rfl | exact isRefV_rf _) ?_
      refine rj_iconst (pc := 226) dX11_isStepRead_226 ?_
      refine rj_iconst (pc := 227) dX11_isStepRead_227 ?_
      refine rj_bipush (pc := 228) dX11_isStepRead_228 (by decide +kernel) ?_
      refine r_callV3 (pc := 230) dX11_isStepRead_230 qX11_isNumber kX11_85 vX11_isNumber (by exact isM.gx (by assumption)) rfl rfl (Nat.le_of_ble_eq_true rfl) (l_number (q := advF q) (F := 2) (lo := 1) (hi := 99) (n + 2) hB_119 hT (adv_ok hq hl) (by decide) (by decide) (by decide)) (fun v_230 h_230 q_230 => ?_)
      obtain ⟨rfl, hB_230, hS_230⟩ := q_230
      refine r_ireturn (pc := 233) .boolean dX11_isStepRead_233 rfl (by first | exact nar_J0 | exact nar_J1 | exact nar_b01 | exact nar_bz) ?_
      have e : (stepR sr f9 take inner it bh q) = (nR sr f9 2 1 99 (advF q)) := by
        unfold stepR
        rw [if_pos c_100]
        rw [show stepG sr f9 take inner (hereF sr f9 q.1) (advF q) = nR sr f9 2 1 99 (advF q) by rw [← e_124_33]; rfl]
      rw [e]
      exact ⟨rfl, hB_230, (hS_119.trans hS_230)⟩
    rw [if_neg e_124_33] at ho_124
    by_cases e_124_43 : (43 : Int) = (hereF sr f9 q.1)
    · rw [if_pos e_124_43] at ho_124
      obtain rfl : tgt_124 = 192 := by omega
      refine r_aload_n (pc := 192) dX11_isStepRead_192 rfl (by first | rfl | exact isRefV_rf _) ?_
      refine rj_iconst (pc := 193) dX11_isStepRead_193 ?_
      refine rj_iconst (pc := 194) dX11_isStepRead_194 ?_
      refine rj_bipush (pc := 195) dX11_isStepRead_195 (by decide +kernel) ?_
      refine r_callV3 (pc := 197) dX11_isStepRead_197 qX11_isNumber kX11_85 vX11_isNumber (by exact isM.gx (by assumption)) rfl rfl (Nat.le_of_ble_eq_true rfl) (l_number (q := advF q) (F := 1) (lo := 0) (hi := 7) (n + 2) hB_119 hT (adv_ok hq hl) (by decide) (by decide) (by decide)) (fun v_197 h_197 q_197 => ?_)
      obtain ⟨rfl, hB_197, hS_197⟩ := q_197
      refine rj_if_eq (pc := 200) (tgt := 223) dX11_isStepRead_200 (by decide) (by first | assumption | exact b01_r | exact bz_r | omega | (constructor <;> omega) | exact hM _ | exact hPo _ | exact hTa _ | exact hRo _) (fun c_200 => ?_) (fun c_200 => ?_)
      · try simp only [b01_0, bz_0, Classical.not_not] at c_200
        refine rj_iconst (pc := 223) dX11_isStepRead_223 ?_
        refine r_ireturn (pc := 224) .boolean dX11_isStepRead_224 rfl (by first | exact nar_J0 | exact nar_J1 | exact nar_b01 | exact nar_bz) ?_
        have e : (stepR sr f9 take inner it bh q) = (nR sr f9 1 0 7 (advF q)) := by
          unfold stepR
          rw [if_pos c_100]
          rw [show stepG sr f9 take inner (hereF sr f9 q.1) (advF q) = andR (andR (nR sr f9 1 0 7 (advF q)) (gR sr f9 61)) (vR sr f9) by rw [← e_124_43]; rfl]
          rw [andR_f (r := nR sr f9 1 0 7 (advF q)) c_200, andR_f c_200]
        rw [e]
        exact ⟨bzf c_200, hB_197, (hS_119.trans hS_197)⟩
      · try simp only [b01_0, bz_0, Classical.not_not] at c_200
        refine r_aload_n (pc := 203) dX11_isStepRead_203 rfl (by first | rfl | exact isRefV_rf _) ?_
        refine rj_bipush (pc := 204) dX11_isStepRead_204 (by decide +kernel) ?_
        refine r_callV1 (pc := 206) dX11_isStepRead_206 qX11_isSign kX11_96 vX11_isSign (by exact isM.gx (by assumption)) rfl rfl (Nat.le_of_ble_eq_true rfl) (l_sign (q := (nR sr f9 1 0 7 (advF q)).2) (n + 4) hB_197 hT (nR_ok (by decide) (adv_ok hq hl)) (by decide)) (fun v_206 h_206 q_206 => ?_)
        obtain ⟨rfl, hB_206, hS_206⟩ := q_206
        refine rj_if_eq (pc := 209) (tgt := 223) dX11_isStepRead_209 (by decide) (by first | assumption | exact b01_r | exact bz_r | omega | (constructor <;> omega) | exact hM _ | exact hPo _ | exact hTa _ | exact hRo _) (fun c_209 => ?_) (fun c_209 => ?_)
        · try simp only [b01_0, bz_0, Classical.not_not] at c_209
          refine rj_iconst (pc := 223) dX11_isStepRead_223 ?_
          refine r_ireturn (pc := 224) .boolean dX11_isStepRead_224 rfl (by first | exact nar_J0 | exact nar_J1 | exact nar_b01 | exact nar_bz) ?_
          have e : (stepR sr f9 take inner it bh q) = (gR sr f9 61 (nR sr f9 1 0 7 (advF q)).2) := by
            unfold stepR
            rw [if_pos c_100]
            rw [show stepG sr f9 take inner (hereF sr f9 q.1) (advF q) = andR (andR (nR sr f9 1 0 7 (advF q)) (gR sr f9 61)) (vR sr f9) by rw [← e_124_43]; rfl]
            rw [andR_t (r := nR sr f9 1 0 7 (advF q)) c_200, andR_f c_209]
          rw [e]
          exact ⟨bzf c_209, hB_206, ((hS_119.trans hS_197).trans hS_206)⟩
        · try simp only [b01_0, bz_0, Classical.not_not] at c_209
          refine r_aload_n (pc := 212) dX11_isStepRead_212 rfl (by first | rfl | exact isRefV_rf _) ?_
          refine r_callV0 (pc := 213) dX11_isStepRead_213 qX11_isSigned kX11_102 vX11_isSigned (by exact isM.gx (by assumption)) rfl rfl (Nat.le_of_ble_eq_true rfl) (l_signed (q := (gR sr f9 61 (nR sr f9 1 0 7 (advF q)).2).2) (n + 1) hB_206 hT (gR_ok (by decide) (nR_ok (by decide) (adv_ok hq hl)))) (fun v_213 h_213 q_213 => ?_)
          obtain ⟨rfl, hB_213, hS_213⟩ := q_213
          refine rj_if_eq (pc := 216) (tgt := 223) dX11_isStepRead_216 (by decide) (by first | assumption | exact b01_r | exact bz_r | omega | (constructor <;> omega) | exact hM _ | exact hPo _ | exact hTa _ | exact hRo _) (fun c_216 => ?_) (fun c_216 => ?_)
          · try simp only [b01_0, bz_0, Classical.not_not] at c_216
            refine rj_iconst (pc := 223) dX11_isStepRead_223 ?_
            refine r_ireturn (pc := 224) .boolean dX11_isStepRead_224 rfl (by first | exact nar_J0 | exact nar_J1 | exact nar_b01 | exact nar_bz) ?_
            have e : (stepR sr f9 take inner it bh q) = (vR sr f9 (gR sr f9 61 (nR sr f9 1 0 7 (advF q)).2).2) := by
              unfold stepR
              rw [if_pos c_100]
              rw [show stepG sr f9 take inner (hereF sr f9 q.1) (advF q) = andR (andR (nR sr f9 1 0 7 (advF q)) (gR sr f9 61)) (vR sr f9) by rw [← e_124_43]; rfl]
              rw [andR_t (r := nR sr f9 1 0 7 (advF q)) c_200, andR_t c_209]
            rw [e]
            exact ⟨bzf c_216, hB_213, (((hS_119.trans hS_197).trans hS_206).trans hS_213)⟩
          · try simp only [b01_0, bz_0, Classical.not_not] at c_216
            refine rj_iconst (pc := 219) dX11_isStepRead_219 ?_
            refine r_goto (pc := 220) (tgt := 224) dX11_isStepRead_220 (by decide) ?_
            refine r_ireturn (pc := 224) .boolean dX11_isStepRead_224 rfl (by first | exact nar_J0 | exact nar_J1 | exact nar_b01 | exact nar_bz) ?_
            have e : (stepR sr f9 take inner it bh q) = (vR sr f9 (gR sr f9 61 (nR sr f9 1 0 7 (advF q)).2).2) := by
              unfold stepR
              rw [if_pos c_100]
              rw [show stepG sr f9 take inner (hereF sr f9 q.1) (advF q) = andR (andR (nR sr f9 1 0 7 (advF q)) (gR sr f9 61)) (vR sr f9) by rw [← e_124_43]; rfl]
              rw [andR_t (r := nR sr f9 1 0 7 (advF q)) c_200, andR_t c_209]
            rw [e]
            exact ⟨bzt c_216, hB_213, (((hS_119.trans hS_197).trans hS_206).trans hS_213)⟩
    rw [if_neg e_124_43] at ho_124
    by_cases e_124_63 : (63 : Int) = (hereF sr f9 q.1)
    · rw [if_pos e_124_63] at ho_124
      obtain rfl : tgt_124 = 287 := by omega
      have hbh : bh = false := by
        rcases c_100 with g | g | g | g | g | g | g | ⟨g1, g2⟩ | ⟨g1 | ⟨g1, g3⟩, g2⟩ <;> first | (exfalso; omega) | exact g2
      refine r_aload_n (pc := 287) dX11_isStepRead_287 rfl (by first | rfl | exact isRefV_rf _) ?_
      refine rj_iconst (pc := 288) dX11_isStepRead_288 ?_
      refine rj_iconst (pc := 289) dX11_isStepRead_289 ?_
      refine rj_bipush (pc := 290) dX11_isStepRead_290 (by decide +kernel) ?_
      refine r_callV3 (pc := 292) dX11_isStepRead_292 qX11_isNumber kX11_85 vX11_isNumber (by exact isM.gx (by assumption)) rfl rfl (Nat.le_of_ble_eq_true rfl) (l_number (q := advF q) (F := 1) (lo := 0) (hi := 7) (n + 2) hB_119 hT (adv_ok hq hl) (by decide) (by decide) (by decide)) (fun v_292 h_292 q_292 => ?_)
      obtain ⟨rfl, hB_292, hS_292⟩ := q_292
      refine rj_if_eq (pc := 295) (tgt := 337) dX11_isStepRead_295 (by decide) (by first | assumption | exact b01_r | exact bz_r | omega | (constructor <;> omega) | exact hM _ | exact hPo _ | exact hTa _ | exact hRo _) (fun c_295 => ?_) (fun c_295 => ?_)
      · try simp only [b01_0, bz_0, Classical.not_not] at c_295
        refine rj_iconst (pc := 337) dX11_isStepRead_337 ?_
        refine r_ireturn (pc := 338) .boolean dX11_isStepRead_338 rfl (by first | exact nar_J0 | exact nar_J1 | exact nar_b01 | exact nar_bz) ?_
        have e : (stepR sr f9 take inner it bh q) = (nR sr f9 1 0 7 (advF q)) := by
          unfold stepR
          rw [if_pos c_100]
          rw [show stepG sr f9 take inner (hereF sr f9 q.1) (advF q) = andR (andR (andR (andR (nR sr f9 1 0 7 (advF q)) (gR sr f9 60)) (vR sr f9)) (gR sr f9 58)) inner by rw [← e_124_63]; rfl]
          rw [andR_f (r := nR sr f9 1 0 7 (advF q)) c_295, andR_f c_295, andR_f c_295, andR_f c_295]
        rw [e]
        exact ⟨bzf c_295, hB_292, (hS_119.trans hS_292)⟩
      · try simp only [b01_0, bz_0, Classical.not_not] at c_295
        refine r_aload_n (pc := 298) dX11_isStepRead_298 rfl (by first | rfl | exact isRefV_rf _) ?_
        refine rj_bipush (pc := 299) dX11_isStepRead_299 (by decide +kernel) ?_
        refine r_callV1 (pc := 301) dX11_isStepRead_301 qX11_isSign kX11_96 vX11_isSign (by exact isM.gx (by assumption)) rfl rfl (Nat.le_of_ble_eq_true rfl) (l_sign (q := (nR sr f9 1 0 7 (advF q)).2) (n + 4) hB_292 hT (nR_ok (by decide) (adv_ok hq hl)) (by decide)) (fun v_301 h_301 q_301 => ?_)
        obtain ⟨rfl, hB_301, hS_301⟩ := q_301
        refine rj_if_eq (pc := 304) (tgt := 337) dX11_isStepRead_304 (by decide) (by first | assumption | exact b01_r | exact bz_r | omega | (constructor <;> omega) | exact hM _ | exact hPo _ | exact hTa _ | exact hRo _) (fun c_304 => ?_) (fun c_304 => ?_)
        · try simp only [b01_0, bz_0, Classical.not_not] at c_304
          refine rj_iconst (pc := 337) dX11_isStepRead_337 ?_
          refine r_ireturn (pc := 338) .boolean dX11_isStepRead_338 rfl (by first | exact nar_J0 | exact nar_J1 | exact nar_b01 | exact nar_bz) ?_
          have e : (stepR sr f9 take inner it bh q) = (gR sr f9 60 (nR sr f9 1 0 7 (advF q)).2) := by
            unfold stepR
            rw [if_pos c_100]
            rw [show stepG sr f9 take inner (hereF sr f9 q.1) (advF q) = andR (andR (andR (andR (nR sr f9 1 0 7 (advF q)) (gR sr f9 60)) (vR sr f9)) (gR sr f9 58)) inner by rw [← e_124_63]; rfl]
            rw [andR_t (r := nR sr f9 1 0 7 (advF q)) c_295, andR_f c_304, andR_f c_304, andR_f c_304]
          rw [e]
          exact ⟨bzf c_304, hB_301, ((hS_119.trans hS_292).trans hS_301)⟩
        · try simp only [b01_0, bz_0, Classical.not_not] at c_304
          refine r_aload_n (pc := 307) dX11_isStepRead_307 rfl (by first | rfl | exact isRefV_rf _) ?_
          refine r_callV0 (pc := 308) dX11_isStepRead_308 qX11_isSigned kX11_102 vX11_isSigned (by exact isM.gx (by assumption)) rfl rfl (Nat.le_of_ble_eq_true rfl) (l_signed (q := (gR sr f9 60 (nR sr f9 1 0 7 (advF q)).2).2) (n + 1) hB_301 hT (gR_ok (by decide) (nR_ok (by decide) (adv_ok hq hl)))) (fun v_308 h_308 q_308 => ?_)
          obtain ⟨rfl, hB_308, hS_308⟩ := q_308
          refine rj_if_eq (pc := 311) (tgt := 337) dX11_isStepRead_311 (by decide) (by first | assumption | exact b01_r | exact bz_r | omega | (constructor <;> omega) | exact hM _ | exact hPo _ | exact hTa _ | exact hRo _) (fun c_311 => ?_) (fun c_311 => ?_)
          · try simp only [b01_0, bz_0, Classical.not_not] at c_311
            refine rj_iconst (pc := 337) dX11_isStepRead_337 ?_
            refine r_ireturn (pc := 338) .boolean dX11_isStepRead_338 rfl (by first | exact nar_J0 | exact nar_J1 | exact nar_b01 | exact nar_bz) ?_
            have e : (stepR sr f9 take inner it bh q) = (vR sr f9 (gR sr f9 60 (nR sr f9 1 0 7 (advF q)).2).2) := by
              unfold stepR
              rw [if_pos c_100]
              rw [show stepG sr f9 take inner (hereF sr f9 q.1) (advF q) = andR (andR (andR (andR (nR sr f9 1 0 7 (advF q)) (gR sr f9 60)) (vR sr f9)) (gR sr f9 58)) inner by rw [← e_124_63]; rfl]
              rw [andR_t (r := nR sr f9 1 0 7 (advF q)) c_295, andR_t c_304, andR_f c_311, andR_f c_311]
            rw [e]
            exact ⟨bzf c_311, hB_308, (((hS_119.trans hS_292).trans hS_301).trans hS_308)⟩
          · try simp only [b01_0, bz_0, Classical.not_not] at c_311
            refine r_aload_n (pc := 314) dX11_isStepRead_314 rfl (by first | rfl | exact isRefV_rf _) ?_
            refine rj_bipush (pc := 315) dX11_isStepRead_315 (by decide +kernel) ?_
            refine r_callV1 (pc := 317) dX11_isStepRead_317 qX11_isSign kX11_96 vX11_isSign (by exact isM.gx (by assumption)) rfl rfl (Nat.le_of_ble_eq_true rfl) (l_sign (q := (vR sr f9 (gR sr f9 60 (nR sr f9 1 0 7 (advF q)).2).2).2) (n + 4) hB_308 hT (vR_ok (gR_ok (by decide) (nR_ok (by decide) (adv_ok hq hl)))) (by decide)) (fun v_317 h_317 q_317 => ?_)
            obtain ⟨rfl, hB_317, hS_317⟩ := q_317
            refine rj_if_eq (pc := 320) (tgt := 337) dX11_isStepRead_320 (by decide) (by first | assumption | exact b01_r | exact bz_r | omega | (constructor <;> omega) | exact hM _ | exact hPo _ | exact hTa _ | exact hRo _) (fun c_320 => ?_) (fun c_320 => ?_)
            · try simp only [b01_0, bz_0, Classical.not_not] at c_320
              refine rj_iconst (pc := 337) dX11_isStepRead_337 ?_
              refine r_ireturn (pc := 338) .boolean dX11_isStepRead_338 rfl (by first | exact nar_J0 | exact nar_J1 | exact nar_b01 | exact nar_bz) ?_
              have e : (stepR sr f9 take inner it bh q) = (gR sr f9 58 (vR sr f9 (gR sr f9 60 (nR sr f9 1 0 7 (advF q)).2).2).2) := by
                unfold stepR
                rw [if_pos c_100]
                rw [show stepG sr f9 take inner (hereF sr f9 q.1) (advF q) = andR (andR (andR (andR (nR sr f9 1 0 7 (advF q)) (gR sr f9 60)) (vR sr f9)) (gR sr f9 58)) inner by rw [← e_124_63]; rfl]
                rw [andR_t (r := nR sr f9 1 0 7 (advF q)) c_295, andR_t c_304, andR_t c_311, andR_f c_320]
              rw [e]
              exact ⟨bzf c_320, hB_317, ((((hS_119.trans hS_292).trans hS_301).trans hS_308).trans hS_317)⟩
            · try simp only [b01_0, bz_0, Classical.not_not] at c_320
              refine r_aload_n (pc := 323) dX11_isStepRead_323 rfl (by first | rfl | exact isRefV_rf _) ?_
              refine r_iload_n (pc := 324) dX11_isStepRead_324 rfl ?_
              refine rj_iconst (pc := 325) dX11_isStepRead_325 ?_
              refine rj_iconst (pc := 326) dX11_isStepRead_326 ?_
              refine r_callV3 (pc := 327) dX11_isStepRead_327 qX11_isStepRead kX11_108 vX11_isStepRead (by exact isM.gx (by assumption)) rfl rfl (Nat.le_of_ble_eq_true rfl) (hIn hbh (gR sr f9 58 (vR sr f9 (gR sr f9 60 (nR sr f9 1 0 7 (advF q)).2).2).2).2 _ hB_317 (gR_ok (by decide) (vR_ok (gR_ok (by decide) (nR_ok (by decide) (adv_ok hq hl)))))) (fun v_327 h_327 q_327 => ?_)
              obtain ⟨rfl, hB_327, hS_327⟩ := q_327
              refine rj_if_eq (pc := 330) (tgt := 337) dX11_isStepRead_330 (by decide) (by first | assumption | exact b01_r | exact bz_r | omega | (constructor <;> omega) | exact hM _ | exact hPo _ | exact hTa _ | exact hRo _) (fun c_330 => ?_) (fun c_330 => ?_)
              · try simp only [b01_0, bz_0, Classical.not_not] at c_330
                refine rj_iconst (pc := 337) dX11_isStepRead_337 ?_
                refine r_ireturn (pc := 338) .boolean dX11_isStepRead_338 rfl (by first | exact nar_J0 | exact nar_J1 | exact nar_b01 | exact nar_bz) ?_
                have e : (stepR sr f9 take inner it bh q) = (inner (gR sr f9 58 (vR sr f9 (gR sr f9 60 (nR sr f9 1 0 7 (advF q)).2).2).2).2) := by
                  unfold stepR
                  rw [if_pos c_100]
                  rw [show stepG sr f9 take inner (hereF sr f9 q.1) (advF q) = andR (andR (andR (andR (nR sr f9 1 0 7 (advF q)) (gR sr f9 60)) (vR sr f9)) (gR sr f9 58)) inner by rw [← e_124_63]; rfl]
                  rw [andR_t (r := nR sr f9 1 0 7 (advF q)) c_295, andR_t c_304, andR_t c_311, andR_t c_320]
                rw [e]
                exact ⟨bzf c_330, hB_327, (((((hS_119.trans hS_292).trans hS_301).trans hS_308).trans hS_317).trans hS_327)⟩
              · try simp only [b01_0, bz_0, Classical.not_not] at c_330
                refine rj_iconst (pc := 333) dX11_isStepRead_333 ?_
                refine r_goto (pc := 334) (tgt := 338) dX11_isStepRead_334 (by decide) ?_
                refine r_ireturn (pc := 338) .boolean dX11_isStepRead_338 rfl (by first | exact nar_J0 | exact nar_J1 | exact nar_b01 | exact nar_bz) ?_
                have e : (stepR sr f9 take inner it bh q) = (inner (gR sr f9 58 (vR sr f9 (gR sr f9 60 (nR sr f9 1 0 7 (advF q)).2).2).2).2) := by
                  unfold stepR
                  rw [if_pos c_100]
                  rw [show stepG sr f9 take inner (hereF sr f9 q.1) (advF q) = andR (andR (andR (andR (nR sr f9 1 0 7 (advF q)) (gR sr f9 60)) (vR sr f9)) (gR sr f9 58)) inner by rw [← e_124_63]; rfl]
                  rw [andR_t (r := nR sr f9 1 0 7 (advF q)) c_295, andR_t c_304, andR_t c_311, andR_t c_320]
                rw [e]
                exact ⟨bzt c_330, hB_327, (((((hS_119.trans hS_292).trans hS_301).trans hS_308).trans hS_317).trans hS_327)⟩
    rw [if_neg e_124_63] at ho_124
    by_cases e_124_97 : (97 : Int) = (hereF sr f9 q.1)
    · rw [if_pos e_124_97] at ho_124
      obtain rfl : tgt_124 = 234 := by omega
      refine r_aload_n (pc := 234) dX11_isStepRead_234 rfl (by first | rfl | exact isRefV_rf _) ?_
      refine r_iload_n (pc := 235) dX11_isStepRead_235 rfl ?_
      refine r_callV1 (pc := 236) dX11_isStepRead_236 qX11_isTakeRead kX11_105 vX11_isTakeRead (by exact isM.gx (by assumption)) rfl rfl (Nat.le_of_ble_eq_true rfl) (hTk (advF q) _ hB_119 (adv_ok hq hl)) (fun v_236 h_236 q_236 => ?_)
      obtain ⟨rfl, hB_236, hS_236⟩ := q_236
      refine r_ireturn (pc := 239) .boolean dX11_isStepRead_239 rfl (by first | exact nar_J0 | exact nar_J1 | exact nar_b01 | exact nar_bz) ?_
      have e : (stepR sr f9 take inner it bh q) = (take (advF q)) := by
        unfold stepR
        rw [if_pos c_100]
        rw [show stepG sr f9 take inner (hereF sr f9 q.1) (advF q) = take (advF q) by rw [← e_124_97]; rfl]
      rw [e]
      exact ⟨rfl, hB_236, (hS_119.trans hS_236)⟩
    rw [if_neg e_124_97] at ho_124
    by_cases e_124_107 : (107 : Int) = (hereF sr f9 q.1)
    · rw [if_pos e_124_107] at ho_124
      obtain rfl : tgt_124 = 278 := by omega
      refine r_aload_n (pc := 278) dX11_isStepRead_278 rfl (by first | rfl | exact isRefV_rf _) ?_
      refine rj_iconst (pc := 279) dX11_isStepRead_279 ?_
      refine rj_iconst (pc := 280) dX11_isStepRead_280 ?_
      refine rj_bipush (pc := 281) dX11_isStepRead_281 (by decide +kernel) ?_
      refine r_callV3 (pc := 283) dX11_isStepRead_283 qX11_isNumber kX11_85 vX11_isNumber (by exact isM.gx (by assumption)) rfl rfl (Nat.le_of_ble_eq_true rfl) (l_number (q := advF q) (F := 1) (lo := 0) (hi := 9) (n + 2) hB_119 hT (adv_ok hq hl) (by decide) (by decide) (by decide)) (fun v_283 h_283 q_283 => ?_)
      obtain ⟨rfl, hB_283, hS_283⟩ := q_283
      refine r_ireturn (pc := 286) .boolean dX11_isStepRead_286 rfl (by first | exact nar_J0 | exact nar_J1 | exact nar_b01 | exact nar_bz) ?_
      have e : (stepR sr f9 take inner it bh q) = (nR sr f9 1 0 9 (advF q)) := by
        unfold stepR
        rw [if_pos c_100]
        rw [show stepG sr f9 take inner (hereF sr f9 q.1) (advF q) = nR sr f9 1 0 9 (advF q) by rw [← e_124_107]; rfl]
      rw [e]
      exact ⟨rfl, hB_283, (hS_119.trans hS_283)⟩
    rw [if_neg e_124_107] at ho_124
    by_cases e_124_109 : (109 : Int) = (hereF sr f9 q.1)
    · rw [if_pos e_124_109] at ho_124
      obtain rfl : tgt_124 = 245 := by omega
      refine r_aload_n (pc := 245) dX11_isStepRead_245 rfl (by first | rfl | exact isRefV_rf _) ?_
      refine r_callV0 (pc := 246) dX11_isStepRead_246 qX11_isName kX11_88 vX11_isName (by exact isM.gx (by assumption)) rfl rfl (Nat.le_of_ble_eq_true rfl) (l_name (q := advF q) (n + 3) hB_119 hT (adv_ok hq hl)) (fun v_246 h_246 q_246 => ?_)
      obtain ⟨rfl, hB_246, hS_246⟩ := q_246
      refine rj_if_eq (pc := 249) (tgt := 276) dX11_isStepRead_249 (by decide) (by first | assumption | exact b01_r | exact bz_r | omega | (constructor <;> omega) | exact hM _ | exact hPo _ | exact hTa _ | exact hRo _) (fun c_249 => ?_) (fun c_249 => ?_)
      · try simp only [b01_0, bz_0, Classical.not_not] at c_249
        refine rj_iconst (pc := 276) dX11_isStepRead_276 ?_
        refine r_ireturn (pc := 277) .boolean dX11_isStepRead_277 rfl (by first | exact nar_J0 | exact nar_J1 | exact nar_b01 | exact nar_bz) ?_
        have e : (stepR sr f9 take inner it bh q) = (aR sr f9 (advF q)) := by
          unfold stepR
          rw [if_pos c_100]
          rw [show stepG sr f9 take inner (hereF sr f9 q.1) (advF q) = andR (andR (aR sr f9 (advF q)) (gR sr f9 62)) (nR sr f9 2 0 99) by rw [← e_124_109]; rfl]
          rw [andR_f (r := aR sr f9 (advF q)) c_249, andR_f c_249]
        rw [e]
        exact ⟨bzf c_249, hB_246, (hS_119.trans hS_246)⟩
      · try simp only [b01_0, bz_0, Classical.not_not] at c_249
        refine r_aload_n (pc := 252) dX11_isStepRead_252 rfl (by first | rfl | exact isRefV_rf _) ?_
        refine rj_bipush (pc := 253) dX11_isStepRead_253 (by decide +kernel) ?_
        refine r_callV1 (pc := 255) dX11_isStepRead_255 qX11_isSign kX11_96 vX11_isSign (by exact isM.gx (by assumption)) rfl rfl (Nat.le_of_ble_eq_true rfl) (l_sign (q := (aR sr f9 (advF q)).2) (n + 4) hB_246 hT (aR_ok (adv_ok hq hl)) (by decide)) (fun v_255 h_255 q_255 => ?_)
        obtain ⟨rfl, hB_255, hS_255⟩ := q_255
        refine rj_if_eq (pc := 258) (tgt := 276) dX11_isStepRead_258 (by decide) (by first | assumption | exact b01_r | exact bz_r | omega | (constructor <;> omega) | exact hM _ | exact hPo _ | exact hTa _ | exact hRo _) (fun c_258 => ?_) (fun c_258 => ?_)
        · try simp only [b01_0, bz_0, Classical.not_not] at c_258
          refine rj_iconst (pc := 276) dX11_isStepRead_276 ?_
          refine r_ireturn (pc := 277) .boolean dX11_isStepRead_277 rfl (by first | exact nar_J0 | exact nar_J1 | exact nar_b01 | exact nar_bz) ?_
          have e : (stepR sr f9 take inner it bh q) = (gR sr f9 62 (aR sr f9 (advF q)).2) := by
            unfold stepR
            rw [if_pos c_100]
            rw [show stepG sr f9 take inner (hereF sr f9 q.1) (advF q) = andR (andR (aR sr f9 (advF q)) (gR sr f9 62)) (nR sr f9 2 0 99) by rw [← e_124_109]; rfl]
            rw [andR_t (r := aR sr f9 (advF q)) c_249, andR_f c_258]
          rw [e]
          exact ⟨bzf c_258, hB_255, ((hS_119.trans hS_246).trans hS_255)⟩
        · try simp only [b01_0, bz_0, Classical.not_not] at c_258
          refine r_aload_n (pc := 261) dX11_isStepRead_261 rfl (by first | rfl | exact isRefV_rf _) ?_
          refine rj_iconst (pc := 262) dX11_isStepRead_262 ?_
          refine rj_iconst (pc := 263) dX11_isStepRead_263 ?_
          refine rj_bipush (pc := 264) dX11_isStepRead_264 (by decide +kernel) ?_
          refine r_callV3 (pc := 266) dX11_isStepRead_266 qX11_isNumber kX11_85 vX11_isNumber (by exact isM.gx (by assumption)) rfl rfl (Nat.le_of_ble_eq_true rfl) (l_number (q := (gR sr f9 62 (aR sr f9 (advF q)).2).2) (F := 2) (lo := 0) (hi := 99) (n + 2) hB_255 hT (gR_ok (by decide) (aR_ok (adv_ok hq hl))) (by decide) (by decide) (by decide)) (fun v_266 h_266 q_266 => ?_)
          obtain ⟨rfl, hB_266, hS_266⟩ := q_266
          refine rj_if_eq (pc := 269) (tgt := 276) dX11_isStepRead_269 (by decide) (by first | assumption | exact b01_r | exact bz_r | omega | (constructor <;> omega) | exact hM _ | exact hPo _ | exact hTa _ | exact hRo _) (fun c_269 => ?_) (fun c_269 => ?_)
          · try simp only [b01_0, bz_0, Classical.not_not] at c_269
            refine rj_iconst (pc := 276) dX11_isStepRead_276 ?_
            refine r_ireturn (pc := 277) .boolean dX11_isStepRead_277 rfl (by first | exact nar_J0 | exact nar_J1 | exact nar_b01 | exact nar_bz) ?_
            have e : (stepR sr f9 take inner it bh q) = (nR sr f9 2 0 99 (gR sr f9 62 (aR sr f9 (advF q)).2).2) := by
              unfold stepR
              rw [if_pos c_100]
              rw [show stepG sr f9 take inner (hereF sr f9 q.1) (advF q) = andR (andR (aR sr f9 (advF q)) (gR sr f9 62)) (nR sr f9 2 0 99) by rw [← e_124_109]; rfl]
              rw [andR_t (r := aR sr f9 (advF q)) c_249, andR_t c_258]
            rw [e]
            exact ⟨bzf c_269, hB_266, (((hS_119.trans hS_246).trans hS_255).trans hS_266)⟩
          · try simp only [b01_0, bz_0, Classical.not_not] at c_269
            refine rj_iconst (pc := 272) dX11_isStepRead_272 ?_
            refine r_goto (pc := 273) (tgt := 277) dX11_isStepRead_273 (by decide) ?_
            refine r_ireturn (pc := 277) .boolean dX11_isStepRead_277 rfl (by first | exact nar_J0 | exact nar_J1 | exact nar_b01 | exact nar_bz) ?_
            have e : (stepR sr f9 take inner it bh q) = (nR sr f9 2 0 99 (gR sr f9 62 (aR sr f9 (advF q)).2).2) := by
              unfold stepR
              rw [if_pos c_100]
              rw [show stepG sr f9 take inner (hereF sr f9 q.1) (advF q) = andR (andR (aR sr f9 (advF q)) (gR sr f9 62)) (nR sr f9 2 0 99) by rw [← e_124_109]; rfl]
              rw [andR_t (r := aR sr f9 (advF q)) c_249, andR_t c_258]
            rw [e]
            exact ⟨bzt c_269, hB_266, (((hS_119.trans hS_246).trans hS_255).trans hS_266)⟩
    rw [if_neg e_124_109] at ho_124
    by_cases e_124_120 : (120 : Int) = (hereF sr f9 q.1)
    · rw [if_pos e_124_120] at ho_124
      obtain rfl : tgt_124 = 240 := by omega
      refine r_aload_n (pc := 240) dX11_isStepRead_240 rfl (by first | rfl | exact isRefV_rf _) ?_
      refine r_callV0 (pc := 241) dX11_isStepRead_241 qX11_isName kX11_88 vX11_isName (by exact isM.gx (by assumption)) rfl rfl (Nat.le_of_ble_eq_true rfl) (l_name (q := advF q) (n + 3) hB_119 hT (adv_ok hq hl)) (fun v_241 h_241 q_241 => ?_)
      obtain ⟨rfl, hB_241, hS_241⟩ := q_241
      refine r_ireturn (pc := 244) .boolean dX11_isStepRead_244 rfl (by first | exact nar_J0 | exact nar_J1 | exact nar_b01 | exact nar_bz) ?_
      have e : (stepR sr f9 take inner it bh q) = (aR sr f9 (advF q)) := by
        unfold stepR
        rw [if_pos c_100]
        rw [show stepG sr f9 take inner (hereF sr f9 q.1) (advF q) = (aR sr f9 (advF q)) by rw [← e_124_120]; rfl]
      rw [e]
      exact ⟨rfl, hB_241, (hS_119.trans hS_241)⟩
    rw [if_neg e_124_120] at ho_124
    obtain rfl : tgt_124 = 339 := by omega
    refine r_aload_n (pc := 339) dX11_isStepRead_339 rfl (by first | rfl | exact isRefV_rf _) ?_
    refine r_dup (pc := 340) dX11_isStepRead_340 (by first | rfl | (cases ‹Option Nat› <;> rfl)) ?_
    refine rm_getf (pc := 341) dX11_isStepRead_341 fX11_99 (by assumption) rfl ?_
    refine r_iload (pc := 344) dX11_isStepRead_344 rfl ?_
    refine rj_bipush (pc := 346) dX11_isStepRead_346 (by decide +kernel) ?_
    refine rj_icmp_ne (pc := 348) (tgt := 355) dX11_isStepRead_348 (by decide) (by first | assumption | exact b01_r | exact bz_r | omega | (constructor <;> omega) | exact hM _ | exact hPo _ | exact hTa _ | exact hRo _) (by first | assumption | exact b01_r | exact bz_r | omega | (constructor <;> omega) | exact hM _ | exact hPo _ | exact hTa _ | exact hRo _) (fun c_348 => ?_) (fun c_348 => ?_)
    · refine r_iload (pc := 355) dX11_isStepRead_355 rfl ?_
      refine rj_bipush (pc := 357) dX11_isStepRead_357 (by decide +kernel) ?_
      refine rj_icmp_ne (pc := 359) (tgt := 366) dX11_isStepRead_359 (by decide) (by first | assumption | exact b01_r | exact bz_r | omega | (constructor <;> omega) | exact hM _ | exact hPo _ | exact hTa _ | exact hRo _) (by first | assumption | exact b01_r | exact bz_r | omega | (constructor <;> omega) | exact hM _ | exact hPo _ | exact hTa _ | exact hRo _) (fun c_359 => ?_) (fun c_359 => ?_)
      · refine rj_iconst (pc := 366) dX11_isStepRead_366 ?_
        refine rj_iadd (pc := 367) dX11_isStepRead_367 ?_
        refine rm_putf (pc := 368) dX11_isStepRead_368 fX11_99 (by assumption) rfl rfl (Nat.le_of_ble_eq_true rfl) (fun h_368 hB_368 hS_368 => ?_)
        dsimp only [List.set, mFs] at hB_368
        refine rj_iconst (pc := 371) dX11_isStepRead_371 ?_
        refine r_ireturn (pc := 372) .boolean dX11_isStepRead_372 rfl (by first | exact nar_J0 | exact nar_J1 | exact nar_b01 | exact nar_bz) ?_
        have e : (stepR sr f9 take inner it bh q) = (true, openF (hereF sr f9 q.1) (advF q)) := by
          unfold stepR
          rw [if_pos c_100]
          unfold stepG
          rw [if_neg (fun g => e_124_43 g.symm), if_neg (fun g => e_124_33 g.symm), if_neg (fun g => e_124_97 g.symm), if_neg (fun g => e_124_120 g.symm), if_neg (fun g => e_124_109 g.symm), if_neg (fun g => e_124_107 g.symm), if_neg (fun g => e_124_63 g.symm)]
        rw [e]
        refine ⟨bzT, ?_, hS_119.trans hS_368⟩
        unfold openF
        rw [if_neg c_348, if_neg c_359]
        exact hB_368
      · refine rj_iconst (pc := 362) dX11_isStepRead_362 ?_
        refine r_goto (pc := 363) (tgt := 367) dX11_isStepRead_363 (by decide) ?_
        refine rj_iadd (pc := 367) dX11_isStepRead_367 ?_
        refine rm_putf (pc := 368) dX11_isStepRead_368 fX11_99 (by assumption) rfl rfl (Nat.le_of_ble_eq_true rfl) (fun h_368 hB_368 hS_368 => ?_)
        dsimp only [List.set, mFs] at hB_368
        refine rj_iconst (pc := 371) dX11_isStepRead_371 ?_
        refine r_ireturn (pc := 372) .boolean dX11_isStepRead_372 rfl (by first | exact nar_J0 | exact nar_J1 | exact nar_b01 | exact nar_bz) ?_
        have e : (stepR sr f9 take inner it bh q) = (true, openF (hereF sr f9 q.1) (advF q)) := by
          unfold stepR
          rw [if_pos c_100]
          unfold stepG
          rw [if_neg (fun g => e_124_43 g.symm), if_neg (fun g => e_124_33 g.symm), if_neg (fun g => e_124_97 g.symm), if_neg (fun g => e_124_120 g.symm), if_neg (fun g => e_124_109 g.symm), if_neg (fun g => e_124_107 g.symm), if_neg (fun g => e_124_63 g.symm)]
        rw [e]
        refine ⟨bzT, ?_, hS_119.trans hS_368⟩
        unfold openF
        rw [if_neg c_348, if_pos c_359]
        exact hB_368
    · refine rj_iconst (pc := 351) dX11_isStepRead_351 ?_
      refine r_goto (pc := 352) (tgt := 367) dX11_isStepRead_352 (by decide) ?_
      refine rj_iadd (pc := 367) dX11_isStepRead_367 ?_
      refine rm_putf (pc := 368) dX11_isStepRead_368 fX11_99 (by assumption) rfl rfl (Nat.le_of_ble_eq_true rfl) (fun h_368 hB_368 hS_368 => ?_)
      dsimp only [List.set, mFs] at hB_368
      refine rj_iconst (pc := 371) dX11_isStepRead_371 ?_
      refine r_ireturn (pc := 372) .boolean dX11_isStepRead_372 rfl (by first | exact nar_J0 | exact nar_J1 | exact nar_b01 | exact nar_bz) ?_
      have e : (stepR sr f9 take inner it bh q) = (true, openF (hereF sr f9 q.1) (advF q)) := by
        unfold stepR
        rw [if_pos c_100]
        unfold stepG
        rw [if_neg (fun g => e_124_43 g.symm), if_neg (fun g => e_124_33 g.symm), if_neg (fun g => e_124_97 g.symm), if_neg (fun g => e_124_120 g.symm), if_neg (fun g => e_124_109 g.symm), if_neg (fun g => e_124_107 g.symm), if_neg (fun g => e_124_63 g.symm)]
      rw [e]
      refine ⟨bzT, ?_, hS_119.trans hS_368⟩
      unfold openF
      rw [if_pos c_348]
      exact hB_368
  · try simp only [b01_0, bz_0, Classical.not_not] at c_100
    refine r_aload_n (pc := 103) dX11_isStepRead_103 rfl (by first | rfl | exact isRefV_rf _) ?_
    refine r_aload_n (pc := 104) dX11_isStepRead_104 rfl (by first | rfl | exact isRefV_rf _) ?_
    refine rm_getf (pc := 105) dX11_isStepRead_105 fX11_65 (by assumption) rfl ?_
    refine r_callV1 (pc := 108) dX11_isStepRead_108 qX11_fails kX11_78 vX11_fails (by exact isM.gx (by assumption)) rfl rfl (Nat.le_of_ble_eq_true rfl) (m_fails (n + 5) hB0 hT hq) (fun v_108 h_108 q_108 => ?_)
    obtain ⟨rfl, hB_108, hS_108⟩ := q_108
    refine r_ireturn (pc := 111) .boolean dX11_isStepRead_111 rfl (by first | exact nar_J0 | exact nar_J1 | exact nar_b01 | exact nar_bz) ?_
    have e : (stepR sr f9 take inner it bh q) = (false, failF q.1 q) := by unfold stepR; rw [if_neg c_100]
    rw [e]
    exact ⟨bzF, hB_108, hS_108⟩
end mg_25
