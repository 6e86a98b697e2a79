/-! ===== StringBuilder: append, toString (by program) ===== -/
/-- a String: a constant, or one of ours, told with its bytes -/
def isOwn (h : mH) (s w : Nat) (u : List Int) : Prop := (∃ hs hz : Int32, hGet h s = some (.inl (11, [.ref w, .int 0, .int hs, .int hz]))) ∧ hGet h w = some (byt (bJ u)) ∧ s < h.2.1 ∧ w < h.2.1
def isCon (G : mG) (s w : Nat) (u : List Int) : Prop := ∃ k, k < 16 ∧ s = kkA G k ∧ w = kkV G k ∧ kByt k = bJ u
def isS (G : mG) (h : mH) (s w : Nat) (u : List Int) : Prop := isCon G s w u ∨ isOwn h s w u
/-- .. that lies apart from a builder -/
def isSA (G : mG) (h : mH) (s w : Nat) (u : List Int) (a b : Nat) : Prop := isCon G s w u ∨ (isOwn h s w u ∧ (s ≠ a ∧ s ≠ b) ∧ (w ≠ a ∧ w ≠ b))
theorem isS.v {G : mG} {h : mH} {s w : Nat} {u : List Int} (k : isS G h s w u) : isStV G h s w (bJ u) := by
  rcases k with ⟨k, k1, k2, k3, k4⟩ | ⟨⟨hs, hz, k1⟩, k2, -⟩
  · exact ⟨Or.inr ⟨k, by omega, k3, k4.symm⟩, Or.inr ⟨k, k1, k2, k3⟩⟩
  · exact ⟨Or.inl k2, Or.inl ⟨hs, hz, k1⟩⟩
theorem isSA.s {G : mG} {h : mH} {s w a b : Nat} {u : List Int} (k : isSA G h s w u a b) : isS G h s w u := k.imp id (fun q => q.1)
theorem isOwn.kp {P : Nat → Prop} {h h' : mH} {s w : Nat} {u : List Int} (k : isOwn h s w u) (o : Old P h h') (hs : ¬ P s) (hw : ¬ P w) : isOwn h' s w u := by
  obtain ⟨⟨a, b, k1⟩, k2, k3, k4⟩ := k
  have := o.2.1
  exact ⟨⟨a, b, (o.2.2 s k3 hs).trans k1⟩, (o.2.2 w k4 hw).trans k2, by omega, by omega⟩
theorem isSA.kp {G : mG} {h h' : mH} {s w a b : Nat} {u : List Int} (k : isSA G h s w u a b) (o : Old (fun q => q = a ∨ q = b) h h') : isSA G h' s w u a b := by
  rcases k with k | ⟨k, k1, k2⟩
  · exact Or.inl k
  · exact Or.inr ⟨k.kp o (fun q => by rcases q with q | q; exact k1.1 q; exact k1.2 q) (fun q => by rcases q with q | q; exact k2.1 q; exact k2.2 q), k1, k2⟩
theorem isSA.to {G : mG} {h : mH} {s w a b b' : Nat} {u : List Int} (k : isSA G h s w u a b) (hb : isCon G s w u ∨ (s ≠ b' ∧ w ≠ b')) : isSA G h s w u a b' := by
  rcases k with k | ⟨k, k1, k2⟩
  · exact Or.inl k
  · rcases hb with hb | hb
    · exact Or.inl hb
    · exact Or.inr ⟨k, ⟨k1.1, hb.1⟩, k2.1, hb.2⟩
theorem isSA.lt {G : mG} {h h' : mH} {s w a b b' : Nat} {u : List Int} (k : isSA G h s w u a b) (o : Old (fun q => q = a ∨ q = b) h h') (hb : b' = b ∨ h.2.1 ≤ b') : isSA G h' s w u a b' := by
  refine (k.kp o).to ?_
  rcases k with k | ⟨k, k1, k2⟩
  · exact Or.inl k
  · right
    obtain ⟨-, -, k3, k4⟩ := k
    rcases hb with rfl | hb
    · exact ⟨k1.2, k2.2⟩
    · exact ⟨by omega, by omega⟩
theorem byte0 : fits .byte (.int (J 0)) = true := (byte_c (by decide)).2.1
section K3
variable {G : mG} {l : Launch} {h : mH}
set_option maxHeartbeats 4000000 in
theorem jk_inflN (d : Nat) {a b : Nat} {bs t : List Int} (hB : isSB h a b bs t) {s w : Nat} {u : List Int} (hS : isSA G h s w u a b) : RUNM G l (d + 1) mJ5_inflateIfNeededFor_a7421 [.ref a, .ref s] h (fun v h' => v = none ∧ h' = h) := by
  obtain ⟨⟨ml, k1⟩, k2, k3, k4⟩ := id hB
  refine RUNM.of (by decide +kernel) (Nat.le_of_ble_eq_true rfl) ?_
  refine rj_getC (pc := 0) dJ5_inflateIfNeededFor_a7421_0 gJ5_18 ?_
  refine rj_if_eq (pc := 3) (tgt := 21) dJ5_inflateIfNeededFor_a7421_3 (by decide) (by first | exact b01_r | exact bz_r | omega | (constructor <;> omega) | apply_assumption | (apply atF_r; assumption) | fail "no range") (fun c_3 => ?_) (fun c_3 => ?_)
  · try simp only [b01_0, bz_0, Classical.not_not] at c_3
    refine r_return (pc := 21) dJ5_inflateIfNeededFor_a7421_21 rfl ?_
    exact ⟨rfl, rfl⟩
  · try simp only [b01_0, bz_0, Classical.not_not] at c_3
    refine r_aload_n (pc := 6) dJ5_inflateIfNeededFor_a7421_6 rfl (by first | rfl | exact isRefV_rf _) ?_
    refine r_getf (pc := 7) dJ5_inflateIfNeededFor_a7421_7 fJ5_22 k1 rfl ?_
    refine r_aload_n (pc := 10) dJ5_inflateIfNeededFor_a7421_10 rfl (by first | rfl | exact isRefV_rf _) ?_
    refine r_callVx (C := "java/lang/String") (pc := 11) dJ5_inflateIfNeededFor_a7421_11 qJ0_coder_7d493 kJ5_40 ⟨vJ0_coder_7d493.1, vJ0_coder_7d493.2⟩ (As := []) rfl (fun hK hH => str_recv hS.s.v hK hH) rfl (Nat.le_of_ble_eq_true rfl) (jk_coder _ hS.s.v) (fun v_11 h_11 q_11 => ?_)
    obtain ⟨rfl, e_h⟩ := q_11; replace e_h := e_h.symm; subst e_h
    refine rj_icmp_eq (pc := 14) (tgt := 21) dJ5_inflateIfNeededFor_a7421_14 (by decide) (by first | exact b01_r | exact bz_r | omega | (constructor <;> omega) | apply_assumption | (apply atF_r; assumption) | fail "no range") (by first | exact b01_r | exact bz_r | omega | (constructor <;> omega) | apply_assumption | (apply atF_r; assumption) | fail "no range") (fun c_14 => ?_) (fun c_14 => ?_)
    · refine r_return (pc := 21) dJ5_inflateIfNeededFor_a7421_21 rfl ?_
      exact ⟨rfl, rfl⟩
    · exfalso; first | omega | contradiction | (simp at *; done)
set_option maxHeartbeats 4000000 in
theorem jk_getBytes (d : Nat) {s w b n : Nat} {u bs : List Int} (hS : isStV G h s w (bJ u)) (hb : hGet h b = some (byt (bJ bs))) (hlo : h.1 ≤ b) (hn : n + u.length ≤ bs.length) (hz : bs.length ≤ 1000) : RUNM G l (d + 1) mJ0_getBytes_840e7 [.ref s, .ref b, .int (J (n : Int)), .int (J 0)] h (fun v h' => v = none ∧ h' = hPut h b (byt (bJ (cpT u bs 0 n u.length)))) := by
  refine RUNM.of (by decide +kernel) (Nat.le_of_ble_eq_true rfl) ?_
  refine r_aload_n (pc := 0) dJ0_getBytes_840e7_0 rfl (by first | rfl | exact isRefV_rf _) ?_
  refine r_callVx (C := "java/lang/String") (pc := 1) dJ0_getBytes_840e7_1 qJ0_coder_7d493 kJ0_335 ⟨vJ0_coder_7d493.1, vJ0_coder_7d493.2⟩ (As := []) rfl (fun hK hH => str_recv hS hK hH) rfl (Nat.le_of_ble_eq_true rfl) (jk_coder _ hS) (fun v_1 h_1 q_1 => ?_)
  obtain ⟨rfl, e_h⟩ := q_1; replace e_h := e_h.symm; subst e_h
  refine r_iload_n (pc := 4) dJ0_getBytes_840e7_4 rfl ?_
  refine rj_icmp_ne (pc := 5) (tgt := 28) dJ0_getBytes_840e7_5 (by decide) (by first | exact b01_r | exact bz_r | omega | (constructor <;> omega) | apply_assumption | (apply atF_r; assumption) | fail "no range") (by first | exact b01_r | exact bz_r | omega | (constructor <;> omega) | apply_assumption | (apply atF_r; assumption) | fail "no range") (fun c_5 => ?_) (fun c_5 => ?_)
  · exfalso; first | omega | contradiction | (simp at *; done)
  · refine r_aload_n (pc := 8) dJ0_getBytes_840e7_8 rfl (by first | rfl | exact isRefV_rf _) ?_
    refine rj_Sv (pc := 9) dJ0_getBytes_840e7_9 fJ0_9 hS ?_
    refine rj_iconst (pc := 12) dJ0_getBytes_840e7_12 ?_
    refine r_aload_n (pc := 13) dJ0_getBytes_840e7_13 rfl (by first | rfl | exact isRefV_rf _) ?_
    refine r_iload_n (pc := 14) dJ0_getBytes_840e7_14 rfl ?_
    refine r_iload_n (pc := 15) dJ0_getBytes_840e7_15 rfl ?_
    refine rj_shl0 (pc := 16) dJ0_getBytes_840e7_16 ?_
    refine r_aload_n (pc := 17) dJ0_getBytes_840e7_17 rfl (by first | rfl | exact isRefV_rf _) ?_
    refine rj_Sv (pc := 18) dJ0_getBytes_840e7_18 fJ0_9 hS ?_
    refine rj_alenB (pc := 21) dJ0_getBytes_840e7_21 hS.1 ?_
    refine rj_copyB (pc := 22) (sp := 0) (dp := n) (n := u.length) dJ0_getBytes_840e7_22 kJ0_212 hS.1 hb hlo (by omega) hn (by omega) (Nat.le_of_ble_eq_true rfl) ?_
    refine r_goto (pc := 25) (tgt := 43) dJ0_getBytes_840e7_25 (by decide) ?_
    refine r_return (pc := 43) dJ0_getBytes_840e7_43 rfl ?_
    exact ⟨rfl, rfl⟩
set_option maxHeartbeats 4000000 in
theorem jk_putStr (d : Nat) {a b : Nat} {bs t : List Int} (hB : isSB h a b bs t) {s w : Nat} {u : List Int} (hS : isSA G h s w u a b) {n : Nat} (hn : n + u.length ≤ bs.length) : RUNM G l (d + 2) mJ5_putStringAt_47b60 [.ref a, .int (J (n : Int)), .ref s] h (fun v h' => v = none ∧ h' = hPut h b (byt (bJ (cpT u bs 0 n u.length)))) := by
  obtain ⟨⟨ml, k1⟩, k2, k3, k4⟩ := id hB
  refine RUNM.of (by decide +kernel) (Nat.le_of_ble_eq_true rfl) ?_
  refine r_aload_n (pc := 0) dJ5_putStringAt_47b60_0 rfl (by first | rfl | exact isRefV_rf _) ?_
  refine r_aload_n (pc := 1) dJ5_putStringAt_47b60_1 rfl (by first | rfl | exact isRefV_rf _) ?_
  refine r_callVx (C := "java/lang/StringBuilder") (pc := 2) dJ5_putStringAt_47b60_2 qJ5_inflateIfNeededFor_a7421 kJ5_397 ⟨nJ5_inflateIfNeededFor_a7421, eJ5_inflateIfNeededFor_a7421⟩ (As := [.ref s]) rfl (fun hK hH => sb_recv k1 hK hH) rfl (Nat.le_of_ble_eq_true rfl) (jk_inflN _ hB hS) (fun v_2 h_2 q_2 => ?_)
  obtain ⟨rfl, e_h⟩ := q_2; replace e_h := e_h.symm; subst e_h
  refine r_aload_n (pc := 5) dJ5_putStringAt_47b60_5 rfl (by first | rfl | exact isRefV_rf _) ?_
  refine r_aload_n (pc := 6) dJ5_putStringAt_47b60_6 rfl (by first | rfl | exact isRefV_rf _) ?_
  refine r_getf (pc := 7) dJ5_putStringAt_47b60_7 fJ5_15 k1 rfl ?_
  refine r_iload_n (pc := 10) dJ5_putStringAt_47b60_10 rfl ?_
  refine r_aload_n (pc := 11) dJ5_putStringAt_47b60_11 rfl (by first | rfl | exact isRefV_rf _) ?_
  refine r_getf (pc := 12) dJ5_putStringAt_47b60_12 fJ5_22 k1 rfl ?_
  refine r_callVx (C := "java/lang/String") (pc := 15) dJ5_putStringAt_47b60_15 qJ0_getBytes_840e7 kJ5_399 ⟨vJ0_getBytes_840e7.1, vJ0_getBytes_840e7.2⟩ (As := [.ref b, .int (J (n : Int)), .int (J 0)]) rfl (fun hK hH => str_recv hS.s.v hK hH) rfl (Nat.le_of_ble_eq_true rfl) (jk_getBytes _ hS.s.v k2 (by omega) hn (by omega)) (fun v_15 h_15 q_15 => ?_)
  obtain ⟨rfl, e_h⟩ := q_15; replace e_h := e_h.symm; subst e_h
  refine r_return (pc := 18) dJ5_putStringAt_47b60_18 rfl ?_
  exact ⟨rfl, rfl⟩
theorem cpT_app {u bs t : List Int} (h1 : t.length + u.length ≤ bs.length) (h2 : bs.take t.length = t) : (cpT u bs 0 t.length u.length).take (t ++ u).length = t ++ u := by
  refine List.ext_getElem? fun j => ?_
  by_cases hj : j < (t ++ u).length
  · have hj2 : j < t.length + u.length := by rw [List.length_append] at hj; exact hj
    rw [List.getElem?_take_of_lt hj, cpT_get (by omega)]
    by_cases h3 : j < t.length
    · rw [List.getElem?_append_left h3]
      have e : va_cpy (fun j => u.getD j 0) (fun j => bs.getD j 0) 0 t.length u.length j = bs.getD j 0 := by
        unfold va_cpy
        rw [if_neg (by omega)]
      have e2 : bs[j]? = t[j]? := by
        have := congrArg (fun x => x[j]?) h2
        simpa [List.getElem?_take_of_lt h3] using this
      rw [e, List.getD_eq_getElem?_getD, e2, List.getElem?_eq_getElem h3]
      rfl
    · rw [List.getElem?_append_right (by omega)]
      have e : va_cpy (fun j => u.getD j 0) (fun j => bs.getD j 0) 0 t.length u.length j = u.getD (j - t.length) 0 := by
        unfold va_cpy
        rw [if_pos (by omega)]
        show u.getD (0 + (j - t.length)) 0 = _
        rw [Nat.zero_add]
      rw [e, List.getD_eq_getElem?_getD, List.getElem?_eq_getElem (show j - t.length < u.length by omega)]
      rfl
  · rw [List.getElem?_eq_none (by rw [List.length_take]; omega), List.getElem?_eq_none (by omega)]
set_option maxHeartbeats 4000000 in
theorem jk_appS0 (d : Nat) (hG : G.2.map Prod.snd = mTy) {a b : Nat} {bs t : List Int} (hB : isSB h a b bs t) {s w : Nat} {u : List Int} (hS : isSA G h s w u a b) (hlo : h.1 ≤ h.2.1) (hm : t.length + u.length ≤ 100) (hbs : bs.length ≤ 202) : RUNM G l (d + 4) mJ5_append_cf1ce [.ref a, .ref s] h (fun v h' => v = some (.ref a) ∧ ∃ (b' : Nat) (bs' : List Int), isSB h' a b' bs' (t ++ u) ∧ (b' = b ∨ h.2.1 ≤ b') ∧ bs'.length ≤ 202 ∧ SBs a b 1 202 h h') := by
  obtain ⟨⟨ml, k1⟩, k2, k3, k4⟩ := id hB
  refine RUNM.of (by decide +kernel) (Nat.le_of_ble_eq_true rfl) ?_
  refine r_aload_n (pc := 0) dJ5_append_cf1ce_0 rfl (by first | rfl | exact isRefV_rf _) ?_
  refine r_ifnonnull (pc := 1) (tgt := 9) dJ5_append_cf1ce_1 (by decide) (by first | rfl | exact isRefV_rf _) (fun a_1 c_1 => ?_) (fun c_1 => by cases c_1)
  refine r_aload_n (pc := 9) dJ5_append_cf1ce_9 rfl (by first | rfl | exact isRefV_rf _) ?_
  refine r_callVx (C := "java/lang/String") (pc := 10) dJ5_append_cf1ce_10 qJ0_length_8abf5 kJ5_32 ⟨vJ0_length_8abf5.1, vJ0_length_8abf5.2⟩ (As := []) rfl (fun hK hH => str_recv hS.s.v hK hH) rfl (Nat.le_of_ble_eq_true rfl) (jk_length _ hS.s.v) (fun v_10 h_10 q_10 => ?_)
  obtain ⟨rfl, e_h⟩ := q_10; replace e_h := e_h.symm; subst e_h
  refine r_istore_n (pc := 13) dJ5_append_cf1ce_13 (Nat.le_of_ble_eq_true rfl) ?_
  dsimp only [lsSt, List.set, mLs, mEnt]
  refine r_aload_n (pc := 14) dJ5_append_cf1ce_14 rfl (by first | rfl | exact isRefV_rf _) ?_
  refine r_aload_n (pc := 15) dJ5_append_cf1ce_15 rfl (by first | rfl | exact isRefV_rf _) ?_
  refine r_getf (pc := 16) dJ5_append_cf1ce_16 fJ5_79 k1 rfl ?_
  refine r_iload_n (pc := 19) dJ5_append_cf1ce_19 rfl ?_
  refine rj_iadd (pc := 20) dJ5_append_cf1ce_20 ?_
  rw [show ((t.length : Int) + (u.length : Int)) = ((t.length + u.length : Nat) : Int) by omega]
  refine r_callVx (C := "java/lang/StringBuilder") (pc := 21) dJ5_append_cf1ce_21 qJ5_ensureCapacityInternal_d00df kJ5_100 ⟨nJ5_ensureCapacityInternal_d00df, eJ5_ensureCapacityInternal_d00df⟩ (As := [.int (J ((t.length + u.length : Nat) : Int))]) rfl (fun hK hH => sb_recv k1 hK hH) rfl (Nat.le_of_ble_eq_true rfl) (jk_ensure d hG hB hlo hm hbs) (fun v_21 h_21 q_21 => ?_)
  obtain ⟨rfl, b2, bs2, hB2, hb2, hm2, hz2, hS2⟩ := q_21
  obtain ⟨⟨ml2, k1⟩, k2, k3, k4⟩ := id hB2
  have hS3 := hS.lt hS2.1 hb2
  refine r_aload_n (pc := 24) dJ5_append_cf1ce_24 rfl (by first | rfl | exact isRefV_rf _) ?_
  refine r_aload_n (pc := 25) dJ5_append_cf1ce_25 rfl (by first | rfl | exact isRefV_rf _) ?_
  refine r_getf (pc := 26) dJ5_append_cf1ce_26 fJ5_79 k1 rfl ?_
  refine r_aload_n (pc := 29) dJ5_append_cf1ce_29 rfl (by first | rfl | exact isRefV_rf _) ?_
  refine r_callVx (C := "java/lang/StringBuilder") (pc := 30) dJ5_append_cf1ce_30 qJ5_putStringAt_47b60 kJ5_208 ⟨nJ5_putStringAt_47b60, eJ5_putStringAt_47b60⟩ (As := [.int (J (t.length : Int)), .ref s]) rfl (fun hK hH => sb_recv k1 hK hH) rfl (Nat.le_of_ble_eq_true rfl) (jk_putStr (d + 1) hB2 hS3 hm2) (fun v_30 h_30 q_30 => ?_)
  obtain ⟨rfl, e_h⟩ := q_30; replace e_h := e_h.symm; subst e_h
  refine r_aload_n (pc := 33) dJ5_append_cf1ce_33 rfl (by first | rfl | exact isRefV_rf _) ?_
  refine r_dup (pc := 34) dJ5_append_cf1ce_34 (by first | rfl | (cases ‹Option Nat› <;> rfl)) ?_
  have k5 : hGet (hPut h_21 b2 (byt (bJ (cpT u bs2 0 t.length u.length)))) a = some (sbO b2 ml2 t.length) := hGet_put_ne (by omega) k1
  refine r_getf (pc := 35) dJ5_append_cf1ce_35 fJ5_79 k5 rfl ?_
  refine r_iload_n (pc := 38) dJ5_append_cf1ce_38 rfl ?_
  refine rj_iadd (pc := 39) dJ5_append_cf1ce_39 ?_
  refine r_putf (pc := 40) dJ5_append_cf1ce_40 fJ5_79 k5 (by show h_21.1 ≤ a; omega) rfl rfl (Nat.le_of_ble_eq_true rfl) ?_
  dsimp only [List.set]
  refine r_aload_n (pc := 43) dJ5_append_cf1ce_43 rfl (by first | rfl | exact isRefV_rf _) ?_
  refine r_areturn (pc := 44) _ dJ5_append_cf1ce_44 rfl (by first | exact Or.inl ⟨_, rfl⟩ | exact Or.inr ⟨_, rfl⟩) (by first | rfl | exact isRefV_rf _) ?_
  refine ⟨rfl, b2, cpT u bs2 0 t.length u.length, ⟨⟨ml2, by rw [List.length_append]; exact hGet_put_self⟩, hGet_put_ne (by omega) hGet_put_self, ⟨by rw [cpT_l, List.length_append]; exact hm2, by rw [cpT_l]; omega, cpT_app hm2 k3.2.2⟩, k4⟩, hb2, by rw [cpT_l]; exact hz2, ⟨⟨hS2.1.1, hS2.1.2.1, fun q hq hn => ?_⟩, hS2.2.1, hS2.2.2.1, hS2.2.2.2⟩⟩
  have hn1 : q ≠ a := fun e => hn (Or.inl e)
  have hn2 : q ≠ b2 := fun e => by rcases hb2 with z | z; exact hn (Or.inr (e.trans z)); omega
  exact hGet_put_ne hn1 (hGet_put_ne hn2 (hS2.1.2.2 q hq hn))
set_option maxHeartbeats 4000000 in
theorem jk_appS (d : Nat) (hG : G.2.map Prod.snd = mTy) {a b : Nat} {bs t : List Int} (hB : isSB h a b bs t) {s w : Nat} {u : List Int} (hS : isSA G h s w u a b) (hlo : h.1 ≤ h.2.1) (hm : t.length + u.length ≤ 100) (hbs : bs.length ≤ 202) : RUNM G l (d + 5) mJ4_append_15ec4 [.ref a, .ref s] h (fun v h' => v = some (.ref a) ∧ ∃ (b' : Nat) (bs' : List Int), isSB h' a b' bs' (t ++ u) ∧ (b' = b ∨ h.2.1 ≤ b') ∧ bs'.length ≤ 202 ∧ SBs a b 1 202 h h') := by
  obtain ⟨⟨ml, k1⟩, k2, k3, k4⟩ := id hB
  refine RUNM.of (by decide +kernel) (Nat.le_of_ble_eq_true rfl) ?_
  refine r_aload_n (pc := 0) dJ4_append_15ec4_0 rfl (by first | rfl | exact isRefV_rf _) ?_
  refine r_aload_n (pc := 1) dJ4_append_15ec4_1 rfl (by first | rfl | exact isRefV_rf _) ?_
  refine r_callSU (ci := 12) (r := (RJ4, TJ4, 4)) (pc := 2) dJ4_append_15ec4_2 qJ5_append_cf1ce (lw_use_in (u4 (List.mem_of_getElem? (i := 222) rfl)) rfl) zJ5_append_cf1ce jSuper nJ5_append_cf1ce (by decide +kernel) (As := [.ref s]) rfl k1 rfl rfl (Nat.le_of_ble_eq_true rfl) (jk_appS0 d hG hB hS hlo hm hbs) (fun v_2 h_2 q_2 => ?_)
  obtain ⟨rfl, q2⟩ := q_2
  refine r_pop (pc := 5) dJ4_append_15ec4_5 (by first | rfl | (cases ‹Option Nat› <;> rfl)) ?_
  refine r_aload_n (pc := 6) dJ4_append_15ec4_6 rfl (by first | rfl | exact isRefV_rf _) ?_
  refine r_areturn (pc := 7) _ dJ4_append_15ec4_7 rfl (by first | exact Or.inl ⟨_, rfl⟩ | exact Or.inr ⟨_, rfl⟩) (by first | rfl | exact isRefV_rf _) ?_
  exact ⟨rfl, q2⟩
set_option maxHeartbeats 4000000 in
theorem jk_sbLatin (d : Nat) {a b : Nat} {bs t : List Int} (hB : isSB h a b bs t) : RUNM G l (d) mJ5_isLatin1_aae02 [.ref a] h (fun v h' => v = some (.int (J 1)) ∧ h' = h) := by
  obtain ⟨⟨ml, k1⟩, k2, k3, k4⟩ := id hB
  refine RUNM.of (by decide +kernel) (Nat.le_of_ble_eq_true rfl) ?_
  refine rj_getC (pc := 0) dJ5_isLatin1_aae02_0 gJ5_18 ?_
  refine rj_if_eq (pc := 3) (tgt := 17) dJ5_isLatin1_aae02_3 (by decide) (by first | exact b01_r | exact bz_r | omega | (constructor <;> omega) | apply_assumption | (apply atF_r; assumption) | fail "no range") (fun c_3 => ?_) (fun c_3 => ?_)
  · try simp only [b01_0, bz_0, Classical.not_not] at c_3
    exfalso; first | omega | contradiction | (simp at *; done)
  · try simp only [b01_0, bz_0, Classical.not_not] at c_3
    refine r_aload_n (pc := 6) dJ5_isLatin1_aae02_6 rfl (by first | rfl | exact isRefV_rf _) ?_
    refine r_getf (pc := 7) dJ5_isLatin1_aae02_7 fJ5_22 k1 rfl ?_
    refine rj_if_ne (pc := 10) (tgt := 17) dJ5_isLatin1_aae02_10 (by decide) (by first | exact b01_r | exact bz_r | omega | (constructor <;> omega) | apply_assumption | (apply atF_r; assumption) | fail "no range") (fun c_10 => ?_) (fun c_10 => ?_)
    · try simp only [b01_0, bz_0, Classical.not_not] at c_10
      exfalso; first | omega | contradiction | (simp at *; done)
    · try simp only [b01_0, bz_0, Classical.not_not] at c_10
      refine rj_iconst (pc := 13) dJ5_isLatin1_aae02_13 ?_
      refine r_goto (pc := 14) (tgt := 18) dJ5_isLatin1_aae02_14 (by decide) ?_
      refine r_ireturn (pc := 18) .boolean dJ5_isLatin1_aae02_18 rfl nar_J1 ?_
      exact ⟨rfl, rfl⟩
set_option maxHeartbeats 4000000 in
theorem jk_canEnc (d : Nat) {c : Int} (hc : 0 ≤ c ∧ c ≤ 127) : RUNM G l (d) mJ1_canEncode_fc78d [.int (J c)] h (fun v h' => v = some (.int (J 1)) ∧ h' = h) := by
  refine RUNM.of (by decide +kernel) (Nat.le_of_ble_eq_true rfl) ?_
  refine r_iload_n (pc := 0) dJ1_canEncode_fc78d_0 rfl ?_
  refine rj_sipush (pc := 1) dJ1_canEncode_fc78d_1 (by decide +kernel) ?_
  refine rj_icmp_gt (pc := 4) (tgt := 11) dJ1_canEncode_fc78d_4 (by decide) (by first | exact b01_r | exact bz_r | omega | (constructor <;> omega) | apply_assumption | (apply atF_r; assumption) | fail "no range") (by first | exact b01_r | exact bz_r | omega | (constructor <;> omega) | apply_assumption | (apply atF_r; assumption) | fail "no range") (fun c_4 => ?_) (fun c_4 => ?_)
  · exfalso; first | omega | contradiction | (simp at *; done)
  · refine rj_iconst (pc := 7) dJ1_canEncode_fc78d_7 ?_
    refine r_goto (pc := 8) (tgt := 12) dJ1_canEncode_fc78d_8 (by decide) ?_
    refine r_ireturn (pc := 12) .boolean dJ1_canEncode_fc78d_12 rfl nar_J1 ?_
    exact ⟨rfl, rfl⟩
theorem set_app {bs t : List Int} {c : Int} (h1 : t.length + 1 ≤ bs.length) (h2 : bs.take t.length = t) : (bs.set t.length c).take (t ++ [c]).length = t ++ [c] := by
  refine List.ext_getElem? fun j => ?_
  by_cases hj : j < (t ++ [c]).length
  · have hj2 : j < t.length + 1 := by rw [List.length_append] at hj; exact hj
    rw [List.getElem?_take_of_lt hj, List.getElem?_set]
    by_cases h3 : j < t.length
    · rw [if_neg (by omega), List.getElem?_append_left h3]
      have := congrArg (fun x => x[j]?) h2
      simpa [List.getElem?_take_of_lt h3] using this
    · obtain rfl : j = t.length := by omega
      rw [if_pos rfl, if_pos (by omega), List.getElem?_append_right (Nat.le_refl _), Nat.sub_self]
      rfl
  · rw [List.getElem?_eq_none (by rw [List.length_take]; omega), List.getElem?_eq_none (by omega)]
set_option maxHeartbeats 4000000 in
theorem jk_appC0 (d : Nat) (hG : G.2.map Prod.snd = mTy) {a b : Nat} {bs t : List Int} (hB : isSB h a b bs t) {c : Int} (hc : 0 ≤ c ∧ c ≤ 127) (hlo : h.1 ≤ h.2.1) (hm : t.length + 1 ≤ 100) (hbs : bs.length ≤ 202) : RUNM G l (d + 4) mJ5_append_3fe6f [.ref a, .int (J c)] h (fun v h' => v = some (.ref a) ∧ ∃ (b' : Nat) (bs' : List Int), isSB h' a b' bs' (t ++ [c]) ∧ (b' = b ∨ h.2.1 ≤ b') ∧ bs'.length ≤ 202 ∧ SBs a b 1 202 h h') := by
  obtain ⟨⟨ml, k1⟩, k2, k3, k4⟩ := id hB
  refine RUNM.of (by decide +kernel) (Nat.le_of_ble_eq_true rfl) ?_
  refine r_aload_n (pc := 0) dJ5_append_3fe6f_0 rfl (by first | rfl | exact isRefV_rf _) ?_
  refine r_aload_n (pc := 1) dJ5_append_3fe6f_1 rfl (by first | rfl | exact isRefV_rf _) ?_
  refine r_getf (pc := 2) dJ5_append_3fe6f_2 fJ5_79 k1 rfl ?_
  refine rj_iconst (pc := 5) dJ5_append_3fe6f_5 ?_
  refine rj_iadd (pc := 6) dJ5_append_3fe6f_6 ?_
  rw [show ((t.length : Int) + 1) = ((t.length + 1 : Nat) : Int) by omega]
  refine r_callVx (C := "java/lang/StringBuilder") (pc := 7) dJ5_append_3fe6f_7 qJ5_ensureCapacityInternal_d00df kJ5_100 ⟨nJ5_ensureCapacityInternal_d00df, eJ5_ensureCapacityInternal_d00df⟩ (As := [.int (J ((t.length + 1 : Nat) : Int))]) rfl (fun hK hH => sb_recv k1 hK hH) rfl (Nat.le_of_ble_eq_true rfl) (jk_ensure d hG hB hlo hm hbs) (fun v_7 h_7 q_7 => ?_)
  obtain ⟨rfl, b2, bs2, hB2, hb2, hm2, hz2, hS2⟩ := q_7
  obtain ⟨⟨ml2, k1⟩, k2, k3, k4⟩ := id hB2
  refine r_aload_n (pc := 10) dJ5_append_3fe6f_10 rfl (by first | rfl | exact isRefV_rf _) ?_
  refine r_callVx (C := "java/lang/StringBuilder") (pc := 11) dJ5_append_3fe6f_11 qJ5_isLatin1_aae02 kJ5_83 ⟨nJ5_isLatin1_aae02, eJ5_isLatin1_aae02⟩ (As := []) rfl (fun hK hH => sb_recv k1 hK hH) rfl (Nat.le_of_ble_eq_true rfl) (jk_sbLatin _ hB2) (fun v_11 h_11 q_11 => ?_)
  obtain ⟨rfl, e_h⟩ := q_11; replace e_h := e_h.symm; subst e_h
  refine rj_if_eq (pc := 14) (tgt := 45) dJ5_append_3fe6f_14 (by decide) (by first | exact b01_r | exact bz_r | omega | (constructor <;> omega) | apply_assumption | (apply atF_r; assumption) | fail "no range") (fun c_14 => ?_) (fun c_14 => ?_)
  · try simp only [b01_0, bz_0, Classical.not_not] at c_14
    exfalso; first | omega | contradiction | (simp at *; done)
  · try simp only [b01_0, bz_0, Classical.not_not] at c_14
    refine r_iload_n (pc := 17) dJ5_append_3fe6f_17 rfl ?_
    refine r_callS1 (pc := 18) dJ5_append_3fe6f_18 qJ1_canEncode_fc78d kJ5_191 sJ1_canEncode_fc78d (Nat.le_of_ble_eq_true rfl) (jk_canEnc _ hc) (fun v_18 h_18 q_18 => ?_)
    obtain ⟨rfl, e_h⟩ := q_18; replace e_h := e_h.symm; subst e_h
    refine rj_if_eq (pc := 21) (tgt := 45) dJ5_append_3fe6f_21 (by decide) (by first | exact b01_r | exact bz_r | omega | (constructor <;> omega) | apply_assumption | (apply atF_r; assumption) | fail "no range") (fun c_21 => ?_) (fun c_21 => ?_)
    · try simp only [b01_0, bz_0, Classical.not_not] at c_21
      exfalso; first | omega | contradiction | (simp at *; done)
    · try simp only [b01_0, bz_0, Classical.not_not] at c_21
      refine r_aload_n (pc := 24) dJ5_append_3fe6f_24 rfl (by first | rfl | exact isRefV_rf _) ?_
      refine r_getf (pc := 25) dJ5_append_3fe6f_25 fJ5_15 k1 rfl ?_
      refine r_aload_n (pc := 28) dJ5_append_3fe6f_28 rfl (by first | rfl | exact isRefV_rf _) ?_
      refine r_dup (pc := 29) dJ5_append_3fe6f_29 (by first | rfl | (cases ‹Option Nat› <;> rfl)) ?_
      refine r_getf (pc := 30) dJ5_append_3fe6f_30 fJ5_79 k1 rfl ?_
      refine r_dup_x1 (pc := 33) dJ5_append_3fe6f_33 rfl rfl ?_
      refine rj_iconst (pc := 34) dJ5_append_3fe6f_34 ?_
      refine rj_iadd (pc := 35) dJ5_append_3fe6f_35 ?_
      refine r_putf (pc := 36) dJ5_append_3fe6f_36 fJ5_79 k1 (by omega) rfl rfl (Nat.le_of_ble_eq_true rfl) ?_
      dsimp only [List.set]
      refine r_iload_n (pc := 39) dJ5_append_3fe6f_39 rfl ?_
      refine rj_i2b (pc := 40) dJ5_append_3fe6f_40 hc ?_
      refine rj_bast (pc := 41) dJ5_append_3fe6f_41 (hGet_put_ne (by omega) k2) (by show h_7.1 ≤ b2; omega) (by omega) (by constructor <;> omega) hc ?_
      rw [show ((t.length : Int)).toNat = t.length by omega]
      refine r_goto (pc := 42) (tgt := 75) dJ5_append_3fe6f_42 (by decide) ?_
      refine r_aload_n (pc := 75) dJ5_append_3fe6f_75 rfl (by first | rfl | exact isRefV_rf _) ?_
      refine r_areturn (pc := 76) _ dJ5_append_3fe6f_76 rfl (by first | exact Or.inl ⟨_, rfl⟩ | exact Or.inr ⟨_, rfl⟩) (by first | rfl | exact isRefV_rf _) ?_
      refine ⟨rfl, b2, bs2.set t.length c, ⟨⟨ml2, by rw [List.length_append]; exact hGet_put_ne (by omega) hGet_put_self⟩, hGet_put_self, ⟨by rw [List.length_set, List.length_append]; exact hm2, by rw [List.length_set]; omega, set_app hm2 k3.2.2⟩, k4⟩, hb2, by rw [List.length_set]; exact hz2, ⟨⟨hS2.1.1, hS2.1.2.1, fun q hq hn => ?_⟩, hS2.2.1, hS2.2.2.1, hS2.2.2.2⟩⟩
      have hn1 : q ≠ a := fun e => hn (Or.inl e)
      have hn2 : q ≠ b2 := fun e => by rcases hb2 with z | z; exact hn (Or.inr (e.trans z)); omega
      exact hGet_put_ne hn2 (hGet_put_ne hn1 (hS2.1.2.2 q hq hn))
set_option maxHeartbeats 4000000 in
theorem jk_appC (d : Nat) (hG : G.2.map Prod.snd = mTy) {a b : Nat} {bs t : List Int} (hB : isSB h a b bs t) {c : Int} (hc : 0 ≤ c ∧ c ≤ 127) (hlo : h.1 ≤ h.2.1) (hm : t.length + 1 ≤ 100) (hbs : bs.length ≤ 202) : RUNM G l (d + 5) mJ4_append_cf468 [.ref a, .int (J c)] h (fun v h' => v = some (.ref a) ∧ ∃ (b' : Nat) (bs' : List Int), isSB h' a b' bs' (t ++ [c]) ∧ (b' = b ∨ h.2.1 ≤ b') ∧ bs'.length ≤ 202 ∧ SBs a b 1 202 h h') := by
  obtain ⟨⟨ml, k1⟩, k2, k3, k4⟩ := id hB
  refine RUNM.of (by decide +kernel) (Nat.le_of_ble_eq_true rfl) ?_
  refine r_aload_n (pc := 0) dJ4_append_cf468_0 rfl (by first | rfl | exact isRefV_rf _) ?_
  refine r_iload_n (pc := 1) dJ4_append_cf468_1 rfl ?_
  refine r_callSU (ci := 12) (r := (RJ4, TJ4, 4)) (pc := 2) dJ4_append_cf468_2 qJ5_append_3fe6f (lw_use_in (u5 (List.mem_of_getElem? (i := 83) rfl)) rfl) zJ5_append_3fe6f jSuper nJ5_append_3fe6f (by decide +kernel) (As := [.int (J c)]) rfl k1 rfl rfl (Nat.le_of_ble_eq_true rfl) (jk_appC0 d hG hB hc hlo hm hbs) (fun v_2 h_2 q_2 => ?_)
  obtain ⟨rfl, q2⟩ := q_2
  refine r_pop (pc := 5) dJ4_append_cf468_5 (by first | rfl | (cases ‹Option Nat› <;> rfl)) ?_
  refine r_aload_n (pc := 6) dJ4_append_cf468_6 rfl (by first | rfl | exact isRefV_rf _) ?_
  refine r_areturn (pc := 7) _ dJ4_append_cf468_7 rfl (by first | exact Or.inl ⟨_, rfl⟩ | exact Or.inr ⟨_, rfl⟩) (by first | rfl | exact isRefV_rf _) ?_
  exact ⟨rfl, q2⟩
end K3
