/-! ===== the end of a turn (by program) ===== -/
def mLaw : mM := (yL_law, code, 16, ret)
section N8
variable {G : mG} {l : Launch} {x n0 y : Nat} {h : mH} {f4 : Int} {m kpm pool : Nat → Int} {zt : Int} {ft : Nat → Int}
theorem lcmp_self {a : Int64} : lg_cmp a a = J 0 := by
  unfold lg_cmp
  simp [J_def]
theorem RO.b2 (hI : RO x y n0 f4 m kpm pool zt ft h) : (1 ≤ m 0 ∧ m 0 ≤ 60) ∧ (0 ≤ m 1 ∧ m 1 ≤ 90) ∧ (0 ≤ m 2 ∧ m 2 ≤ 90) ∧ (0 ≤ m 3 ∧ m 3 ≤ 10) ∧ m 2 + cnt (heldB m) (m 1).toNat = m 1 ∧ NC m ∧ NS m ∧ ScI m := by
  obtain ⟨B0, T0, ⟨⟨hInv, hsc, hnc, hns⟩, -⟩, -, hz⟩ := hI.rows
  have m0 := hInv.1.2.1
  exact ⟨⟨hInv.2.1.1, m0.2⟩, hInv.1.2.2.1, hInv.1.2.2.2.1, hInv.1.2.2.2.2.1, held_all hInv hnc, hnc, hns, hsc⟩
set_option maxHeartbeats 4000000 in
set_option maxRecDepth 100000 in
theorem law_t3 (hI : RO x y n0 f4 m kpm pool zt ft h) {b : Nat} {tn : Int} {sg : Int64} {a4 a5 a6 a7 a11 a12 a13 a14 a15 : Option Value} {xx : Int} {Q : Option Value → mH → Prop} (K : RUN G l 2048 mLaw 1339 [some (.ref b), some (.ref x), some (.int (J 1)), some (.int (J tn)), a4, a5, a6, a7, some (.long sg), none, some (.int (J xx)), a11, a12, a13, a14, a15] [] h Q) : RUN G l 2048 mLaw 1305 [some (.ref b), some (.ref x), some (.int (J 1)), some (.int (J tn)), a4, a5, a6, a7, some (.long sg), none, some (.int (J xx)), a11, a12, a13, a14, a15] [] h Q := by
  obtain ⟨fs, ho⟩ := hI.gx
  obtain ⟨m0, m1, m2, m3, hh, -⟩ := hI.b2
  refine r_iload_n (pc := 1305) dL_law_1305 rfl ?_
  refine r_aload_n (pc := 1306) dL_law_1306 rfl (by first | rfl | exact isRefV_rf _) ?_
  refine rj_bipush (pc := 1307) dL_law_1307 (by decide +kernel) ?_
  refine r_callV1 (pc := 1309) dL_law_1309 qX10_told kL_43 vX10_told ho rfl rfl (Nat.le_of_ble_eq_true rfl) ((oa_tld hI (k := 7) (by omega)).deeper (Nat.le_of_ble_eq_true rfl)) (fun v_1309 h_1309 q_1309 => ?_)
  obtain ⟨rfl, e_h⟩ := q_1309; replace e_h := e_h.symm; subst e_h
  rw [show toldV m 0 0 (m 1).toNat (m 0).toNat (m 3).toNat 7 = m 2 from rfl]
  refine r_aload_n (pc := 1312) dL_law_1312 rfl (by first | rfl | exact isRefV_rf _) ?_
  refine rj_iconst (pc := 1313) dL_law_1313 ?_
  refine r_callV1 (pc := 1314) dL_law_1314 qX10_told kL_43 vX10_told ho rfl rfl (Nat.le_of_ble_eq_true rfl) ((oa_tld hI (k := 3) (by omega)).deeper (Nat.le_of_ble_eq_true rfl)) (fun v_1314 h_1314 q_1314 => ?_)
  obtain ⟨rfl, e_h⟩ := q_1314; replace e_h := e_h.symm; subst e_h
  rw [show toldV m 0 0 (m 1).toNat (m 0).toNat (m 3).toNat 3 = cnt (heldB m) (m 1).toNat from rfl]
  refine rj_iadd (pc := 1317) dL_law_1317 ?_
  refine r_aload_n (pc := 1318) dL_law_1318 rfl (by first | rfl | exact isRefV_rf _) ?_
  refine rj_iconst (pc := 1319) dL_law_1319 ?_
  refine r_callV1 (pc := 1320) dL_law_1320 qX10_told kL_43 vX10_told ho rfl rfl (Nat.le_of_ble_eq_true rfl) ((oa_tld hI (k := 2) (by omega)).deeper (Nat.le_of_ble_eq_true rfl)) (fun v_1320 h_1320 q_1320 => ?_)
  obtain ⟨rfl, e_h⟩ := q_1320; replace e_h := e_h.symm; subst e_h
  rw [show toldV m 0 0 (m 1).toNat (m 0).toNat (m 3).toNat 2 = m 1 from rfl]
  rw [hh]
  refine rj_icmp_ne (pc := 1323) (tgt := 1330) dL_law_1323 (by decide) (by first | exact b01_r | exact bz_r | omega | (constructor <;> omega) | apply_assumption | (apply atF_r; assumption) | fail "no range") (by first | exact b01_r | exact bz_r | omega | (constructor <;> omega) | apply_assumption | (apply atF_r; assumption) | fail "no range") (fun c_1323 => ?_) (fun c_1323 => ?_)
  · exfalso; omega
  · refine rj_iconst (pc := 1326) dL_law_1326 ?_
    refine r_goto (pc := 1327) (tgt := 1331) dL_law_1327 (by decide) ?_
    refine rj_and1 (pc := 1331) dL_law_1331 ?_
    refine r_istore_n (pc := 1332) dL_law_1332 (Nat.le_of_ble_eq_true rfl) ?_
    dsimp only [lsSt, List.set, mLs, mEnt]
    refine r_iload_n (pc := 1333) dL_law_1333 rfl ?_
    refine rj_if_ne (pc := 1334) (tgt := 1339) dL_law_1334 (by decide) (by first | exact b01_r | exact bz_r | omega | (constructor <;> omega) | apply_assumption | (apply atF_r; assumption) | fail "no range") (fun c_1334 => ?_) (fun c_1334 => ?_)
    · try simp only [b01_0, bz_0, Classical.not_not] at c_1334
      exact K
    · try simp only [b01_0, bz_0, Classical.not_not] at c_1334
      exfalso; omega
set_option maxHeartbeats 4000000 in
set_option maxRecDepth 100000 in
theorem law_log (hI : RO x y n0 f4 m kpm pool zt ft h) (hj : JI m) {b : Nat} {tn : Int} {sg : Int64} {a4 a5 a6 a7 a11 a12 a13 a14 a15 : Option Value} {xx : Int} {Q : Option Value → mH → Prop} (n k : Nat) (e : ((k + n : Nat) : Int) = m 2) (K : RUN G l 2048 mLaw 1305 [some (.ref b), some (.ref x), some (.int (J 1)), some (.int (J tn)), a4, a5, a6, a7, some (.long sg), none, some (.int (J xx)), some (.int (J ((k + n : Nat) : Int))), a12, a13, a14, a15] [] h Q) : RUN G l 2048 mLaw 1249 [some (.ref b), some (.ref x), some (.int (J 1)), some (.int (J tn)), a4, a5, a6, a7, some (.long sg), none, some (.int (J xx)), some (.int (J (k : Int))), a12, a13, a14, a15] [] h Q := by
  obtain ⟨fs, ho⟩ := hI.gx
  obtain ⟨m0, m1, m2, m3, hh, -⟩ := hI.b2
  induction n generalizing k with
  | zero =>
    refine r_iload (pc := 1249) dL_law_1249 rfl ?_
    refine r_aload_n (pc := 1251) dL_law_1251 rfl (by first | rfl | exact isRefV_rf _) ?_
    refine rj_bipush (pc := 1252) dL_law_1252 (by decide +kernel) ?_
    refine r_callV1 (pc := 1254) dL_law_1254 qX10_told kL_43 vX10_told ho rfl rfl (Nat.le_of_ble_eq_true rfl) ((oa_tld hI (k := 7) (by omega)).deeper (Nat.le_of_ble_eq_true rfl)) (fun v_1254 h_1254 q_1254 => ?_)
    obtain ⟨rfl, e_h⟩ := q_1254; replace e_h := e_h.symm; subst e_h
    rw [show toldV m 0 0 (m 1).toNat (m 0).toNat (m 3).toNat 7 = m 2 from rfl]
    refine rj_icmp_ge (pc := 1257) (tgt := 1305) dL_law_1257 (by decide) (by first | exact b01_r | exact bz_r | omega | (constructor <;> omega) | apply_assumption | (apply atF_r; assumption) | fail "no range") (by first | exact b01_r | exact bz_r | omega | (constructor <;> omega) | apply_assumption | (apply atF_r; assumption) | fail "no range") (fun c_1257 => ?_) (fun c_1257 => ?_)
    · exact K
    · exfalso; omega
  | succ n ih =>
    obtain ⟨t, t1, t2, t3, t4⟩ := hj.2.1 k (by omega)
    have el : logV m (k : Int) = t := by
      unfold logV
      rw [if_pos ⟨by omega, by omega⟩, show ((1518 : Int) + (k : Int)).toNat = 1518 + k by omega]
      exact t1
    have e2 : thgV m (t : Int) 2 = k := by
      unfold thgV
      rw [if_pos ⟨by omega, by omega⟩, if_neg (by decide), if_neg (by decide), show ((t : Int)).toNat = t by omega]
      exact t4
    have e0 : thgV m (t : Int) 0 = 1 := by
      unfold thgV
      rw [if_pos ⟨by omega, by omega⟩, if_pos rfl, show ((t : Int)).toNat = t by omega, if_neg (by omega)]
    refine r_iload (pc := 1249) dL_law_1249 rfl ?_
    refine r_aload_n (pc := 1251) dL_law_1251 rfl (by first | rfl | exact isRefV_rf _) ?_
    refine rj_bipush (pc := 1252) dL_law_1252 (by decide +kernel) ?_
    refine r_callV1 (pc := 1254) dL_law_1254 qX10_told kL_43 vX10_told ho rfl rfl (Nat.le_of_ble_eq_true rfl) ((oa_tld hI (k := 7) (by omega)).deeper (Nat.le_of_ble_eq_true rfl)) (fun v_1254 h_1254 q_1254 => ?_)
    obtain ⟨rfl, e_h⟩ := q_1254; replace e_h := e_h.symm; subst e_h
    rw [show toldV m 0 0 (m 1).toNat (m 0).toNat (m 3).toNat 7 = m 2 from rfl]
    refine rj_icmp_ge (pc := 1257) (tgt := 1305) dL_law_1257 (by decide) (by first | exact b01_r | exact bz_r | omega | (constructor <;> omega) | apply_assumption | (apply atF_r; assumption) | fail "no range") (by first | exact b01_r | exact bz_r | omega | (constructor <;> omega) | apply_assumption | (apply atF_r; assumption) | fail "no range") (fun c_1257 => ?_) (fun c_1257 => ?_)
    · exfalso; omega
    · refine r_iload_n (pc := 1260) dL_law_1260 rfl ?_
      refine r_aload_n (pc := 1261) dL_law_1261 rfl (by first | rfl | exact isRefV_rf _) ?_
      refine r_aload_n (pc := 1262) dL_law_1262 rfl (by first | rfl | exact isRefV_rf _) ?_
      refine r_iload (pc := 1263) dL_law_1263 rfl ?_
      refine r_callV1 (pc := 1265) dL_law_1265 qX10_log kL_50 vX10_log ho rfl rfl (Nat.le_of_ble_eq_true rfl) ((oa_log hI (a := (k : Int)) (by constructor <;> omega)).deeper (Nat.le_of_ble_eq_true rfl)) (fun v_1265 h_1265 q_1265 => ?_)
      obtain ⟨rfl, e_h⟩ := q_1265; replace e_h := e_h.symm; subst e_h
      rw [el]
      refine rj_iconst (pc := 1268) dL_law_1268 ?_
      refine r_callV2 (pc := 1269) dL_law_1269 qX10_thing kL_53 vX10_thing ho rfl rfl (Nat.le_of_ble_eq_true rfl) ((oa_thing hI (a := (t : Int)) (by constructor <;> omega) (i := 2) (by omega)).deeper (Nat.le_of_ble_eq_true rfl)) (fun v_1269 h_1269 q_1269 => ?_)
      obtain ⟨rfl, e_h⟩ := q_1269; replace e_h := e_h.symm; subst e_h
      rw [e2]
      refine r_iload (pc := 1272) dL_law_1272 rfl ?_
      refine rj_icmp_ne (pc := 1274) (tgt := 1296) dL_law_1274 (by decide) (by first | exact b01_r | exact bz_r | omega | (constructor <;> omega) | apply_assumption | (apply atF_r; assumption) | fail "no range") (by first | exact b01_r | exact bz_r | omega | (constructor <;> omega) | apply_assumption | (apply atF_r; assumption) | fail "no range") (fun c_1274 => ?_) (fun c_1274 => ?_)
      · exfalso; omega
      · refine r_aload_n (pc := 1277) dL_law_1277 rfl (by first | rfl | exact isRefV_rf _) ?_
        refine r_aload_n (pc := 1278) dL_law_1278 rfl (by first | rfl | exact isRefV_rf _) ?_
        refine r_iload (pc := 1279) dL_law_1279 rfl ?_
        refine r_callV1 (pc := 1281) dL_law_1281 qX10_log kL_50 vX10_log ho rfl rfl (Nat.le_of_ble_eq_true rfl) ((oa_log hI (a := (k : Int)) (by constructor <;> omega)).deeper (Nat.le_of_ble_eq_true rfl)) (fun v_1281 h_1281 q_1281 => ?_)
        obtain ⟨rfl, e_h⟩ := q_1281; replace e_h := e_h.symm; subst e_h
        rw [el]
        refine rj_iconst (pc := 1284) dL_law_1284 ?_
        refine r_callV2 (pc := 1285) dL_law_1285 qX10_thing kL_53 vX10_thing ho rfl rfl (Nat.le_of_ble_eq_true rfl) ((oa_thing hI (a := (t : Int)) (by constructor <;> omega) (i := 0) (by omega)).deeper (Nat.le_of_ble_eq_true rfl)) (fun v_1285 h_1285 q_1285 => ?_)
        obtain ⟨rfl, e_h⟩ := q_1285; replace e_h := e_h.symm; subst e_h
        rw [e0]
        refine rj_iconst (pc := 1288) dL_law_1288 ?_
        refine rj_icmp_ne (pc := 1289) (tgt := 1296) dL_law_1289 (by decide) (by first | exact b01_r | exact bz_r | omega | (constructor <;> omega) | apply_assumption | (apply atF_r; assumption) | fail "no range") (by first | exact b01_r | exact bz_r | omega | (constructor <;> omega) | apply_assumption | (apply atF_r; assumption) | fail "no range") (fun c_1289 => ?_) (fun c_1289 => ?_)
        · exfalso; omega
        · refine rj_iconst (pc := 1292) dL_law_1292 ?_
          refine r_goto (pc := 1293) (tgt := 1297) dL_law_1293 (by decide) ?_
          refine rj_and1 (pc := 1297) dL_law_1297 ?_
          refine r_istore_n (pc := 1298) dL_law_1298 (Nat.le_of_ble_eq_true rfl) ?_
          dsimp only [lsSt, List.set, mLs, mEnt]
          refine rj_iinc (pc := 1299) dL_law_1299 (Nat.le_of_ble_eq_true rfl) rfl ?_
          dsimp only [lsSt, List.set, mLs, mEnt]
          refine r_goto (pc := 1302) (tgt := 1249) dL_law_1302 (by decide) ?_
          rw [show (k : Int) + 1 = ((k + 1 : Nat) : Int) by omega]
          refine ih (k + 1) (by omega) ?_
          rw [show k + 1 + n = k + (n + 1) by omega]
          exact K
set_option maxHeartbeats 4000000 in
set_option maxRecDepth 100000 in
theorem law_t2 (hI : RO x y n0 f4 m kpm pool zt ft h) (hj : JI m) {b : Nat} {tn : Int} {sg : Int64} {a4 a5 a6 a7 a11 a12 a13 a14 a15 : Option Value} {xx : Int} {Q : Option Value → mH → Prop} (K : ∀ a, RUN G l 2048 mLaw 1339 [some (.ref b), some (.ref x), some (.int (J 1)), some (.int (J tn)), a4, a5, a6, a7, some (.long sg), none, some (.int (J xx)), a, a12, a13, a14, a15] [] h Q) : RUN G l 2048 mLaw 1239 [some (.ref b), some (.ref x), some (.int (J 1)), some (.int (J tn)), a4, a5, a6, a7, some (.long sg), none, some (.int (J xx)), a11, a12, a13, a14, a15] [.int (J 1)] h Q := by
  obtain ⟨m0, m1, m2, m3, hh, -⟩ := hI.b2
  refine rj_iconst (pc := 1239) dL_law_1239 ?_
  refine r_goto (pc := 1240) (tgt := 1244) dL_law_1240 (by decide) ?_
  refine rj_and1 (pc := 1244) dL_law_1244 ?_
  refine r_istore_n (pc := 1245) dL_law_1245 (Nat.le_of_ble_eq_true rfl) ?_
  dsimp only [lsSt, List.set, mLs, mEnt]
  refine rj_iconst (pc := 1246) dL_law_1246 ?_
  refine r_istore (pc := 1247) dL_law_1247 (Nat.le_of_ble_eq_true rfl) ?_
  dsimp only [lsSt, List.set, mLs, mEnt]
  exact law_log (a11 := a11) hI hj (m 2).toNat 0 (by omega) (law_t3 hI (K _))
set_option maxHeartbeats 4000000 in
set_option maxRecDepth 100000 in
theorem law_tail (hI : RO x y n0 f4 m kpm pool zt ft h) (hj : JI m) {b : Nat} {tn : Int} {sg : Int64} {a4 a5 a6 a7 a11 a12 a13 a14 a15 : Option Value} {xx : Int} {Q : Option Value → mH → Prop} (hx : InR xx) (hc : 0 ≤ xx ∨ xx = -99 ∨ sgt m = sg) (K : ∀ a, RUN G l 2048 mLaw 1339 [some (.ref b), some (.ref x), some (.int (J 1)), some (.int (J tn)), a4, a5, a6, a7, some (.long sg), none, some (.int (J xx)), a, a12, a13, a14, a15] [] h Q) : RUN G l 2048 mLaw 1216 [some (.ref b), some (.ref x), some (.int (J 1)), some (.int (J tn)), a4, a5, a6, a7, some (.long sg), none, some (.int (J xx)), a11, a12, a13, a14, a15] [] h Q := by
  refine r_iload_n (pc := 1216) dL_law_1216 rfl ?_
  refine r_iload (pc := 1217) dL_law_1217 rfl ?_
  refine rj_if_ge (pc := 1219) (tgt := 1239) dL_law_1219 (by decide) (by first | exact b01_r | exact bz_r | omega | (constructor <;> omega) | apply_assumption | (apply atF_r; assumption) | fail "no range") (fun c_1219 => ?_) (fun c_1219 => ?_)
  · exact law_t2 hI hj K
  · refine r_iload (pc := 1222) dL_law_1222 rfl ?_
    refine rj_bipush (pc := 1224) dL_law_1224 (by decide +kernel) ?_
    refine rj_icmp_eq (pc := 1226) (tgt := 1239) dL_law_1226 (by decide) (by first | exact b01_r | exact bz_r | omega | (constructor <;> omega) | apply_assumption | (apply atF_r; assumption) | fail "no range") (by first | exact b01_r | exact bz_r | omega | (constructor <;> omega) | apply_assumption | (apply atF_r; assumption) | fail "no range") (fun c_1226 => ?_) (fun c_1226 => ?_)
    · exact law_t2 hI hj K
    · refine r_aload_n (pc := 1229) dL_law_1229 rfl (by first | rfl | exact isRefV_rf _) ?_
      refine r_callS1 (pc := 1230) dL_law_1230 qL_sight kL_94 sL_sight (Nat.le_of_ble_eq_true rfl) ((jl_sight hI).deeper (Nat.le_of_ble_eq_true rfl)) (fun v_1230 h_1230 q_1230 => ?_)
      obtain ⟨rfl, e_h⟩ := q_1230; replace e_h := e_h.symm; subst e_h
      refine r_lload (pc := 1233) dL_law_1233 rfl ?_
      refine r_lcmp (pc := 1235) dL_law_1235 ?_
      rw [show sgt m = sg by rcases hc with z | z | z; omega; omega; exact z, lcmp_self]
      refine rj_if_ne (pc := 1236) (tgt := 1243) dL_law_1236 (by decide) (by first | exact b01_r | exact bz_r | omega | (constructor <;> omega) | apply_assumption | (apply atF_r; assumption) | fail "no range") (fun c_1236 => ?_) (fun c_1236 => ?_)
      · try simp only [b01_0, bz_0, Classical.not_not] at c_1236
        first | exact (c_1236 trivial).elim | exact absurd rfl c_1236
      · try simp only [b01_0, bz_0, Classical.not_not] at c_1236
        exact law_t2 hI hj K
end N8
