/-! ===== String, StringBuilder: contracts (by program) ===== -/
section K2
variable {G : mG} {l : Launch} {h : mH}
set_option maxHeartbeats 4000000 in
theorem jk_coder (d : Nat) {a w : Nat} {t : List Int} (hS : isStV G h a w (bJ t)) : RUNM G l (d) mJ0_coder_7d493 [.ref a] h (fun v h' => v = some (.int (J 0)) ∧ h' = h) := by
  refine RUNM.of (by decide +kernel) (Nat.le_of_ble_eq_true rfl) ?_
  refine rj_getC (pc := 0) dJ0_coder_7d493_0 gJ0_38 ?_
  refine rj_if_eq (pc := 3) (tgt := 13) dJ0_coder_7d493_3 (by decide) (by first | exact b01_r | exact bz_r | omega | (constructor <;> omega) | apply_assumption | (apply atF_r; assumption) | fail "no range") (fun c_3 => ?_) (fun c_3 => ?_)
  · try simp only [b01_0, bz_0, Classical.not_not] at c_3
    exfalso; first | omega | contradiction | (simp at *; done)
  · try simp only [b01_0, bz_0, Classical.not_not] at c_3
    refine r_aload_n (pc := 6) dJ0_coder_7d493_6 rfl (by first | rfl | exact isRefV_rf _) ?_
    refine rj_Sc (pc := 7) dJ0_coder_7d493_7 fJ0_15 hS ?_
    refine r_goto (pc := 10) (tgt := 14) dJ0_coder_7d493_10 (by decide) ?_
    refine r_ireturn (pc := 14) .byte dJ0_coder_7d493_14 rfl nar_b0 ?_
    exact ⟨rfl, rfl⟩
set_option maxHeartbeats 4000000 in
theorem jk_isLatin1 (d : Nat) {a w : Nat} {t : List Int} (hS : isStV G h a w (bJ t)) : RUNM G l (d) mJ0_isLatin1_aae02 [.ref a] h (fun v h' => v = some (.int (J 1)) ∧ h' = h) := by
  refine RUNM.of (by decide +kernel) (Nat.le_of_ble_eq_true rfl) ?_
  refine rj_getC (pc := 0) dJ0_isLatin1_aae02_0 gJ0_38 ?_
  refine rj_if_eq (pc := 3) (tgt := 17) dJ0_isLatin1_aae02_3 (by decide) (by first | exact b01_r | exact bz_r | omega | (constructor <;> omega) | apply_assumption | (apply atF_r; assumption) | fail "no range") (fun c_3 => ?_) (fun c_3 => ?_)
  · try simp only [b01_0, bz_0, Classical.not_not] at c_3
    exfalso; first | omega | contradiction | (simp at *; done)
  · try simp only [b01_0, bz_0, Classical.not_not] at c_3
    refine r_aload_n (pc := 6) dJ0_isLatin1_aae02_6 rfl (by first | rfl | exact isRefV_rf _) ?_
    refine rj_Sc (pc := 7) dJ0_isLatin1_aae02_7 fJ0_15 hS ?_
    refine rj_if_ne (pc := 10) (tgt := 17) dJ0_isLatin1_aae02_10 (by decide) (by first | exact b01_r | exact bz_r | omega | (constructor <;> omega) | apply_assumption | (apply atF_r; assumption) | fail "no range") (fun c_10 => ?_) (fun c_10 => ?_)
    · try simp only [b01_0, bz_0, Classical.not_not] at c_10
      exfalso; first | omega | contradiction | (simp at *; done)
    · try simp only [b01_0, bz_0, Classical.not_not] at c_10
      refine rj_iconst (pc := 13) dJ0_isLatin1_aae02_13 ?_
      refine r_goto (pc := 14) (tgt := 18) dJ0_isLatin1_aae02_14 (by decide) ?_
      refine r_ireturn (pc := 18) .boolean dJ0_isLatin1_aae02_18 rfl nar_J1 ?_
      exact ⟨rfl, rfl⟩
set_option maxHeartbeats 4000000 in
theorem jk_length (d : Nat) {a w : Nat} {t : List Int} (hS : isStV G h a w (bJ t)) : RUNM G l (d + 1) mJ0_length_8abf5 [.ref a] h (fun v h' => v = some (.int (J (t.length : Int))) ∧ h' = h) := by
  refine RUNM.of (by decide +kernel) (Nat.le_of_ble_eq_true rfl) ?_
  refine r_aload_n (pc := 0) dJ0_length_8abf5_0 rfl (by first | rfl | exact isRefV_rf _) ?_
  refine rj_Sv (pc := 1) dJ0_length_8abf5_1 fJ0_9 hS ?_
  refine rj_alenB (pc := 4) dJ0_length_8abf5_4 hS.1 ?_
  refine r_aload_n (pc := 5) dJ0_length_8abf5_5 rfl (by first | rfl | exact isRefV_rf _) ?_
  refine r_callVx (C := "java/lang/String") (pc := 6) dJ0_length_8abf5_6 qJ0_coder_7d493 kJ0_335 ⟨vJ0_coder_7d493.1, vJ0_coder_7d493.2⟩ (As := []) rfl (fun hK hH => str_recv hS hK hH) rfl (Nat.le_of_ble_eq_true rfl) (jk_coder _ hS) (fun v_6 h_6 q_6 => ?_)
  obtain ⟨rfl, e_h⟩ := q_6; replace e_h := e_h.symm; subst e_h
  refine rj_shr0 (pc := 9) dJ0_length_8abf5_9 ?_
  refine r_ireturn (pc := 10) .int dJ0_length_8abf5_10 rfl (by first | rfl | assumption) ?_
  exact ⟨rfl, rfl⟩
set_option maxHeartbeats 4000000 in
theorem jk_pcheck (d : Nat) {i n : Int} {r : Option Nat} (h0 : 0 ≤ i ∧ i < n) (hi : InR i) (hn : InR n) : RUNM G l (d) mJ3_checkIndex_8e157 [.int (J i), .int (J n), va_rf r] h (fun v h' => v = some (.int (J i)) ∧ h' = h) := by
  refine RUNM.of (by decide +kernel) (by cases r <;> exact Nat.le_of_ble_eq_true rfl) ?_
  refine r_iload_n (pc := 0) dJ3_checkIndex_8e157_0 rfl ?_
  refine rj_if_lt (pc := 1) (tgt := 9) dJ3_checkIndex_8e157_1 (by decide) (by first | exact b01_r | exact bz_r | omega | (constructor <;> omega) | apply_assumption | (apply atF_r; assumption) | fail "no range") (fun c_1 => ?_) (fun c_1 => ?_)
  · exfalso; first | omega | contradiction | (simp at *; done)
  · refine r_iload_n (pc := 4) dJ3_checkIndex_8e157_4 rfl ?_
    refine r_iload_n (pc := 5) dJ3_checkIndex_8e157_5 rfl ?_
    refine rj_icmp_lt (pc := 6) (tgt := 16) dJ3_checkIndex_8e157_6 (by decide) (by first | exact b01_r | exact bz_r | omega | (constructor <;> omega) | apply_assumption | (apply atF_r; assumption) | fail "no range") (by first | exact b01_r | exact bz_r | omega | (constructor <;> omega) | apply_assumption | (apply atF_r; assumption) | fail "no range") (fun c_6 => ?_) (fun c_6 => ?_)
    · refine r_iload_n (pc := 16) dJ3_checkIndex_8e157_16 rfl ?_
      refine r_ireturn (pc := 17) .int dJ3_checkIndex_8e157_17 rfl (by first | rfl | assumption) ?_
      exact ⟨rfl, rfl⟩
    · exfalso; first | omega | contradiction | (simp at *; done)
set_option maxHeartbeats 4000000 in
theorem jk_check (d : Nat) {i n : Int} (h0 : 0 ≤ i ∧ i < n) (hi : InR i) (hn : InR n) : RUNM G l (d + 1) mJ0_checkIndex_df160 [.int (J i), .int (J n)] h (fun v h' => v = none ∧ h' = h) := by
  refine RUNM.of (by decide +kernel) (Nat.le_of_ble_eq_true rfl) ?_
  refine r_iload_n (pc := 0) dJ0_checkIndex_df160_0 rfl ?_
  refine r_iload_n (pc := 1) dJ0_checkIndex_df160_1 rfl ?_
  refine rj_SIO (pc := 2) dJ0_checkIndex_df160_2 gJ0_1053 ?_
  refine r_callS3 (pc := 5) dJ0_checkIndex_df160_5 qJ3_checkIndex_8e157 kJ0_1059 sJ3_checkIndex_8e157 (Nat.le_of_ble_eq_true rfl) (jk_pcheck _ h0 hi hn) (fun v_5 h_5 q_5 => ?_)
  obtain ⟨rfl, e_h⟩ := q_5; replace e_h := e_h.symm; subst e_h
  refine r_pop (pc := 8) dJ0_checkIndex_df160_8 (by first | rfl | (cases ‹Option Nat› <;> rfl)) ?_
  refine r_return (pc := 9) dJ0_checkIndex_df160_9 rfl ?_
  exact ⟨rfl, rfl⟩
set_option maxHeartbeats 4000000 in
theorem jk_lcharAt (d : Nat) {b : Nat} {t : List Int} (ht : tOk t) (ho : isBy G h b (bJ t)) {i : Int} (h0 : 0 ≤ i ∧ i < t.length) (hi : InR i) (hn : InR (t.length : Int)) : RUNM G l (d + 2) mJ1_charAt_3b067 [.ref b, .int (J i)] h (fun v h' => v = some (.int (J (t.getD i.toNat 0))) ∧ h' = h) := by
  refine RUNM.of (by decide +kernel) (Nat.le_of_ble_eq_true rfl) ?_
  refine r_iload_n (pc := 0) dJ1_charAt_3b067_0 rfl ?_
  refine r_aload_n (pc := 1) dJ1_charAt_3b067_1 rfl (by first | rfl | exact isRefV_rf _) ?_
  refine rj_alenB (pc := 2) dJ1_charAt_3b067_2 ho ?_
  refine r_callS2 (pc := 3) dJ1_charAt_3b067_3 qJ0_checkIndex_df160 kJ1_9 sJ0_checkIndex_df160 (Nat.le_of_ble_eq_true rfl) (jk_check d h0 hi hn) (fun v_3 h_3 q_3 => ?_)
  obtain ⟨rfl, e_h⟩ := q_3; replace e_h := e_h.symm; subst e_h
  refine r_aload_n (pc := 6) dJ1_charAt_3b067_6 rfl (by first | rfl | exact isRefV_rf _) ?_
  refine r_iload_n (pc := 7) dJ1_charAt_3b067_7 rfl ?_
  refine rj_bald (pc := 8) dJ1_charAt_3b067_8 ho h0 hi ?_
  refine rj_sipush (pc := 9) dJ1_charAt_3b067_9 (by decide +kernel) ?_
  refine rj_andC (pc := 12) dJ1_charAt_3b067_12 (tOk_D ht _) ?_
  refine rj_i2c (pc := 13) dJ1_charAt_3b067_13 (tOk_D ht _) ?_
  refine r_ireturn (pc := 14) .char dJ1_charAt_3b067_14 rfl (byte_c (tOk_D ht _)).2.2.2.2 ?_
  exact ⟨rfl, rfl⟩
set_option maxHeartbeats 4000000 in
theorem jk_charAt (d : Nat) {a w : Nat} {t : List Int} (hS : isStV G h a w (bJ t)) (ht : tOk t) {i : Int} (h0 : 0 ≤ i ∧ i < t.length) (hi : InR i) (hn : InR (t.length : Int)) : RUNM G l (d + 3) mJ0_charAt_5068e [.ref a, .int (J i)] h (fun v h' => v = some (.int (J (t.getD i.toNat 0))) ∧ h' = h) := by
  refine RUNM.of (by decide +kernel) (Nat.le_of_ble_eq_true rfl) ?_
  refine r_aload_n (pc := 0) dJ0_charAt_5068e_0 rfl (by first | rfl | exact isRefV_rf _) ?_
  refine r_callVx (C := "java/lang/String") (pc := 1) dJ0_charAt_5068e_1 qJ0_isLatin1_aae02 kJ0_492 ⟨vJ0_isLatin1_aae02.1, vJ0_isLatin1_aae02.2⟩ (As := []) rfl (fun hK hH => str_recv hS hK hH) rfl (Nat.le_of_ble_eq_true rfl) (jk_isLatin1 _ hS) (fun v_1 h_1 q_1 => ?_)
  obtain ⟨rfl, e_h⟩ := q_1; replace e_h := e_h.symm; subst e_h
  refine rj_if_eq (pc := 4) (tgt := 16) dJ0_charAt_5068e_4 (by decide) (by first | exact b01_r | exact bz_r | omega | (constructor <;> omega) | apply_assumption | (apply atF_r; assumption) | fail "no range") (fun c_4 => ?_) (fun c_4 => ?_)
  · try simp only [b01_0, bz_0, Classical.not_not] at c_4
    exfalso; first | omega | contradiction | (simp at *; done)
  · try simp only [b01_0, bz_0, Classical.not_not] at c_4
    refine r_aload_n (pc := 7) dJ0_charAt_5068e_7 rfl (by first | rfl | exact isRefV_rf _) ?_
    refine rj_Sv (pc := 8) dJ0_charAt_5068e_8 fJ0_9 hS ?_
    refine r_iload_n (pc := 11) dJ0_charAt_5068e_11 rfl ?_
    refine r_callS2 (pc := 12) dJ0_charAt_5068e_12 qJ1_charAt_3b067 kJ0_495 sJ1_charAt_3b067 (Nat.le_of_ble_eq_true rfl) (jk_lcharAt d ht hS.1 h0 hi hn) (fun v_12 h_12 q_12 => ?_)
    obtain ⟨rfl, e_h⟩ := q_12; replace e_h := e_h.symm; subst e_h
    refine r_ireturn (pc := 15) .char dJ0_charAt_5068e_15 rfl (byte_c (tOk_D ht _)).2.2.2.2 ?_
    exact ⟨rfl, rfl⟩
set_option maxHeartbeats 4000000 in
theorem jk_newLength (d : Nat) {o m p : Int} (ho : 0 ≤ o ∧ o ≤ 1000) (hm : 0 < m ∧ m ≤ 1000) (hp : 0 ≤ p ∧ p ≤ 1000) : RUNM G l (d + 1) mJ8_newLength_cabcc [.int (J o), .int (J m), .int (J p)] h (fun v h' => v = some (.int (J (o + (if m < p then p else m)))) ∧ h' = h) := by
  have hx : 0 < (if m < p then p else m) ∧ (if m < p then p else m) ≤ 1000 := by split <;> omega
  refine RUNM.of (by decide +kernel) (Nat.le_of_ble_eq_true rfl) ?_
  refine r_iload_n (pc := 0) dJ8_newLength_cabcc_0 rfl ?_
  refine r_iload_n (pc := 1) dJ8_newLength_cabcc_1 rfl ?_
  refine r_iload_n (pc := 2) dJ8_newLength_cabcc_2 rfl ?_
  refine rj_mmax (pc := 3) dJ8_newLength_cabcc_3 (lw_use_in (u5 (List.mem_of_getElem? (i := 0) rfl)) rfl) (Nat.le_of_ble_eq_true rfl) (by constructor <;> omega) (by constructor <;> omega) ?_
  generalize (if m < p then p else m) = x at hx ⊢
  refine rj_iadd (pc := 6) dJ8_newLength_cabcc_6 ?_
  refine r_istore_n (pc := 7) dJ8_newLength_cabcc_7 (Nat.le_of_ble_eq_true rfl) ?_
  dsimp only [lsSt, List.set, mLs, mEnt]
  refine rj_iconst (pc := 8) dJ8_newLength_cabcc_8 ?_
  refine r_iload_n (pc := 9) dJ8_newLength_cabcc_9 rfl ?_
  refine rj_icmp_ge (pc := 10) (tgt := 21) dJ8_newLength_cabcc_10 (by decide) (by first | exact b01_r | exact bz_r | omega | (constructor <;> omega) | apply_assumption | (apply atF_r; assumption) | fail "no range") (by first | exact b01_r | exact bz_r | omega | (constructor <;> omega) | apply_assumption | (apply atF_r; assumption) | fail "no range") (fun c_10 => ?_) (fun c_10 => ?_)
  · exfalso; first | omega | contradiction | (simp at *; done)
  · refine r_iload_n (pc := 13) dJ8_newLength_cabcc_13 rfl ?_
    refine rj_ldc 2147483639 (pc := 14) dJ8_newLength_cabcc_14 oJ8_200 (by decide +kernel) ?_
    refine rj_icmp_gt (pc := 16) (tgt := 21) dJ8_newLength_cabcc_16 (by decide) (by first | exact b01_r | exact bz_r | omega | (constructor <;> omega) | apply_assumption | (apply atF_r; assumption) | fail "no range") (by first | exact b01_r | exact bz_r | omega | (constructor <;> omega) | apply_assumption | (apply atF_r; assumption) | fail "no range") (fun c_16 => ?_) (fun c_16 => ?_)
    · exfalso; first | omega | contradiction | (simp at *; done)
    · refine r_iload_n (pc := 19) dJ8_newLength_cabcc_19 rfl ?_
      refine r_ireturn (pc := 20) .int dJ8_newLength_cabcc_20 rfl (by first | rfl | assumption) ?_
      exact ⟨rfl, rfl⟩
set_option maxHeartbeats 4000000 in
theorem jk_newCap (d : Nat) {a b : Nat} {bs t : List Int} (hB : isSB h a b bs t) {m : Int} (hm : bs.length < m ∧ m ≤ 200) (hbs : bs.length ≤ 200) : RUNM G l (d + 2) mJ5_newCapacity_0f7a4 [.ref a, .int (J m)] h (fun v h' => v = some (.int (J ((bs.length : Int) + (if m - (bs.length : Int) < (bs.length : Int) + 2 then (bs.length : Int) + 2 else m - (bs.length : Int))))) ∧ h' = h) := by
  obtain ⟨⟨ml, k1⟩, k2, k3, k4⟩ := id hB
  refine RUNM.of (by decide +kernel) (Nat.le_of_ble_eq_true rfl) ?_
  refine r_aload_n (pc := 0) dJ5_newCapacity_0f7a4_0 rfl (by first | rfl | exact isRefV_rf _) ?_
  refine r_getf (pc := 1) dJ5_newCapacity_0f7a4_1 fJ5_15 k1 rfl ?_
  refine rj_alenB (pc := 4) dJ5_newCapacity_0f7a4_4 (Or.inl k2) ?_
  refine r_istore_n (pc := 5) dJ5_newCapacity_0f7a4_5 (Nat.le_of_ble_eq_true rfl) ?_
  dsimp only [lsSt, List.set, mLs, mEnt]
  refine r_iload_n (pc := 6) dJ5_newCapacity_0f7a4_6 rfl ?_
  refine r_aload_n (pc := 7) dJ5_newCapacity_0f7a4_7 rfl (by first | rfl | exact isRefV_rf _) ?_
  refine r_getf (pc := 8) dJ5_newCapacity_0f7a4_8 fJ5_22 k1 rfl ?_
  refine rj_shl0 (pc := 11) dJ5_newCapacity_0f7a4_11 ?_
  refine r_istore_n (pc := 12) dJ5_newCapacity_0f7a4_12 (Nat.le_of_ble_eq_true rfl) ?_
  dsimp only [lsSt, List.set, mLs, mEnt]
  refine r_iload_n (pc := 13) dJ5_newCapacity_0f7a4_13 rfl ?_
  refine r_iload_n (pc := 14) dJ5_newCapacity_0f7a4_14 rfl ?_
  refine rj_isub (pc := 15) dJ5_newCapacity_0f7a4_15 ?_
  refine r_istore (pc := 16) dJ5_newCapacity_0f7a4_16 (Nat.le_of_ble_eq_true rfl) ?_
  dsimp only [lsSt, List.set, mLs, mEnt]
  refine r_iload_n (pc := 18) dJ5_newCapacity_0f7a4_18 rfl ?_
  refine r_iload (pc := 19) dJ5_newCapacity_0f7a4_19 rfl ?_
  refine r_iload_n (pc := 21) dJ5_newCapacity_0f7a4_21 rfl ?_
  refine rj_iconst (pc := 22) dJ5_newCapacity_0f7a4_22 ?_
  refine r_aload_n (pc := 23) dJ5_newCapacity_0f7a4_23 rfl (by first | rfl | exact isRefV_rf _) ?_
  refine r_getf (pc := 24) dJ5_newCapacity_0f7a4_24 fJ5_22 k1 rfl ?_
  refine rj_shl0 (pc := 27) dJ5_newCapacity_0f7a4_27 ?_
  refine rj_iadd (pc := 28) dJ5_newCapacity_0f7a4_28 ?_
  refine r_callS3 (pc := 29) dJ5_newCapacity_0f7a4_29 qJ8_newLength_cabcc kJ5_114 sJ8_newLength_cabcc (Nat.le_of_ble_eq_true rfl) (jk_newLength _ (by omega) (by omega) (by omega)) (fun v_29 h_29 q_29 => ?_)
  obtain ⟨rfl, e_h⟩ := q_29; replace e_h := e_h.symm; subst e_h
  refine r_istore (pc := 32) dJ5_newCapacity_0f7a4_32 (Nat.le_of_ble_eq_true rfl) ?_
  dsimp only [lsSt, List.set, mLs, mEnt]
  refine r_iload (pc := 34) dJ5_newCapacity_0f7a4_34 rfl ?_
  refine rj_ldc 2147483647 (pc := 36) dJ5_newCapacity_0f7a4_36 oJ5_39 (by decide +kernel) ?_
  refine rj_icmp_ne (pc := 38) (tgt := 51) dJ5_newCapacity_0f7a4_38 (by decide) (by first | exact b01_r | exact bz_r | omega | (constructor <;> omega) | apply_assumption | (apply atF_r; assumption) | fail "no range") (by first | exact b01_r | exact bz_r | omega | (constructor <;> omega) | apply_assumption | (apply atF_r; assumption) | fail "no range") (fun c_38 => ?_) (fun c_38 => ?_)
  · refine r_iload (pc := 51) dJ5_newCapacity_0f7a4_51 rfl ?_
    refine r_aload_n (pc := 53) dJ5_newCapacity_0f7a4_53 rfl (by first | rfl | exact isRefV_rf _) ?_
    refine r_getf (pc := 54) dJ5_newCapacity_0f7a4_54 fJ5_22 k1 rfl ?_
    refine rj_shr0 (pc := 57) dJ5_newCapacity_0f7a4_57 ?_
    refine r_ireturn (pc := 58) .int dJ5_newCapacity_0f7a4_58 rfl (by first | rfl | assumption) ?_
    exact ⟨rfl, rfl⟩
  · exfalso; first | omega | contradiction | (simp at *; done)
set_option maxHeartbeats 4000000 in
theorem jk_copyOf (d : Nat) (hG : G.2.map Prod.snd = mTy) {b : Nat} {bs : List Int} (hb : hGet h b = some (byt (bJ bs))) (hz : b < h.2.1 ∧ h.1 ≤ h.2.1) {n : Nat} (hn : bs.length < n ∧ n ≤ 600) : RUNM G l (d + 1) mJ7_copyOf_9075b [.ref b, .int (J (n : Int))] h (fun v h' => v = some (.ref h.2.1) ∧ h' = hPut (hNew h n (byt (bJ (List.replicate n 0)))) h.2.1 (byt (bJ (cpT bs (List.replicate n 0) 0 0 bs.length)))) := by
  refine RUNM.of (by decide +kernel) (Nat.le_of_ble_eq_true rfl) ?_
  refine r_iload_n (pc := 0) dJ7_copyOf_9075b_0 rfl ?_
  refine r_aload_n (pc := 1) dJ7_copyOf_9075b_1 rfl (by first | rfl | exact isRefV_rf _) ?_
  refine rj_alenB (pc := 2) dJ7_copyOf_9075b_2 (Or.inl hb) ?_
  refine rj_icmp_ne (pc := 3) (tgt := 14) dJ7_copyOf_9075b_3 (by decide) (by first | exact b01_r | exact bz_r | omega | (constructor <;> omega) | apply_assumption | (apply atF_r; assumption) | fail "no range") (by first | exact b01_r | exact bz_r | omega | (constructor <;> omega) | apply_assumption | (apply atF_r; assumption) | fail "no range") (fun c_3 => ?_) (fun c_3 => ?_)
  · refine r_iload_n (pc := 14) dJ7_copyOf_9075b_14 rfl ?_
    refine rj_newaB (pc := 15) dJ7_copyOf_9075b_15 hG (by omega) ?_
    have hb' : hGet (hNew h n (byt (bJ (List.replicate n 0)))) b = some (byt (bJ bs)) := hGet_new_ne (by omega) hb
    refine r_astore_n (pc := 17) dJ7_copyOf_9075b_17 (Nat.le_of_ble_eq_true rfl) (by first | rfl | exact isRefV_rf _) ?_
    dsimp only [lsSt, List.set, mLs, mEnt]
    refine r_aload_n (pc := 18) dJ7_copyOf_9075b_18 rfl (by first | rfl | exact isRefV_rf _) ?_
    refine rj_iconst (pc := 19) dJ7_copyOf_9075b_19 ?_
    refine r_aload_n (pc := 20) dJ7_copyOf_9075b_20 rfl (by first | rfl | exact isRefV_rf _) ?_
    refine rj_iconst (pc := 21) dJ7_copyOf_9075b_21 ?_
    refine r_aload_n (pc := 22) dJ7_copyOf_9075b_22 rfl (by first | rfl | exact isRefV_rf _) ?_
    refine rj_alenB (pc := 23) dJ7_copyOf_9075b_23 (Or.inl hb') ?_
    refine r_iload_n (pc := 24) dJ7_copyOf_9075b_24 rfl ?_
    refine rj_mmin (pc := 25) dJ7_copyOf_9075b_25 (lw_use_in (u5 (List.mem_of_getElem? (i := 18) rfl)) rfl) (Nat.le_of_ble_eq_true rfl) (by constructor <;> omega) (by constructor <;> omega) ?_
    rw [if_neg (show ¬ (n : Int) < (bs.length : Int) by omega)]
    refine rj_copyB (pc := 28) (sp := 0) (dp := 0) (n := bs.length) dJ7_copyOf_9075b_28 kJ7_150 (Or.inl hb') hGet_new_self hz.2 (by omega) (by rw [List.length_replicate]; omega) (by rw [List.length_replicate]; omega) (Nat.le_of_ble_eq_true rfl) ?_
    refine r_aload_n (pc := 31) dJ7_copyOf_9075b_31 rfl (by first | rfl | exact isRefV_rf _) ?_
    refine r_areturn (pc := 32) _ dJ7_copyOf_9075b_32 rfl (by first | exact Or.inl ⟨_, rfl⟩ | exact Or.inr ⟨_, rfl⟩) (by first | rfl | exact isRefV_rf _) ?_
    exact ⟨rfl, rfl⟩
  · exfalso; first | omega | contradiction | (simp at *; done)
/-- a builder with more room, or as much -/
theorem SBs.rf {a v : Nat} : SBs a v 0 0 h h := ⟨Old.rf, by omega, Nat.le_refl _, by omega⟩
theorem cpT_take {bs t : List Int} {N : Nat} (h1 : bs.length ≤ N) (h2 : t.length ≤ bs.length) (h3 : bs.take t.length = t) : (cpT bs (List.replicate N 0) 0 0 bs.length).take t.length = t := by
  refine List.ext_getElem? fun j => ?_
  by_cases hj : j < t.length
  · rw [List.getElem?_take_of_lt hj, cpT_get (by rw [List.length_replicate]; omega)]
    have e : va_cpy (fun j => bs.getD j 0) (fun j => (List.replicate N (0 : Int)).getD j 0) 0 0 bs.length j = bs.getD j 0 := by
      unfold va_cpy
      rw [if_pos ⟨Nat.zero_le _, by omega⟩]
      show bs.getD (0 + (j - 0)) 0 = _
      rw [Nat.zero_add, Nat.sub_zero]
    rw [e, List.getD_eq_getElem?_getD]
    have e2 : bs[j]? = t[j]? := by
      have := congrArg (fun x => x[j]?) h3
      simpa [List.getElem?_take_of_lt hj] using this
    rw [e2, List.getElem?_eq_getElem hj]
    rfl
  · rw [List.getElem?_eq_none (by rw [List.length_take]; omega), List.getElem?_eq_none (by omega)]
set_option maxHeartbeats 4000000 in
theorem jk_ensure (d : Nat) (hG : G.2.map Prod.snd = mTy) {a b : Nat} {bs t : List Int} (hB : isSB h a b bs t) (hlo : h.1 ≤ h.2.1) {m : Nat} (hm : m ≤ 100) (hbs : bs.length ≤ 202) : RUNM G l (d + 3) mJ5_ensureCapacityInternal_d00df [.ref a, .int (J (m : Int))] h (fun v h' => v = none ∧ ∃ (b' : Nat) (bs' : List Int), isSB h' a b' bs' t ∧ (b' = b ∨ h.2.1 ≤ b') ∧ m ≤ bs'.length ∧ bs'.length ≤ 202 ∧ SBs a b 1 202 h h') := by
  obtain ⟨⟨ml, k1⟩, k2, k3, k4⟩ := id hB
  refine RUNM.of (by decide +kernel) (Nat.le_of_ble_eq_true rfl) ?_
  refine r_aload_n (pc := 0) dJ5_ensureCapacityInternal_d00df_0 rfl (by first | rfl | exact isRefV_rf _) ?_
  refine r_getf (pc := 1) dJ5_ensureCapacityInternal_d00df_1 fJ5_15 k1 rfl ?_
  refine rj_alenB (pc := 4) dJ5_ensureCapacityInternal_d00df_4 (Or.inl k2) ?_
  refine r_aload_n (pc := 5) dJ5_ensureCapacityInternal_d00df_5 rfl (by first | rfl | exact isRefV_rf _) ?_
  refine r_getf (pc := 6) dJ5_ensureCapacityInternal_d00df_6 fJ5_22 k1 rfl ?_
  refine rj_shr0 (pc := 9) dJ5_ensureCapacityInternal_d00df_9 ?_
  refine r_istore_n (pc := 10) dJ5_ensureCapacityInternal_d00df_10 (Nat.le_of_ble_eq_true rfl) ?_
  dsimp only [lsSt, List.set, mLs, mEnt]
  refine r_iload_n (pc := 11) dJ5_ensureCapacityInternal_d00df_11 rfl ?_
  refine r_iload_n (pc := 12) dJ5_ensureCapacityInternal_d00df_12 rfl ?_
  refine rj_isub (pc := 13) dJ5_ensureCapacityInternal_d00df_13 ?_
  refine rj_if_le (pc := 14) (tgt := 38) dJ5_ensureCapacityInternal_d00df_14 (by decide) (by first | exact b01_r | exact bz_r | omega | (constructor <;> omega) | apply_assumption | (apply atF_r; assumption) | fail "no range") (fun c_14 => ?_) (fun c_14 => ?_)
  · refine r_return (pc := 38) dJ5_ensureCapacityInternal_d00df_38 rfl ?_
    first
      | (have c38 : (m : Int) - bs.length ≤ 0 := by omega
         exact ⟨rfl, b, bs, hB, Or.inl rfl, by omega, hbs, ⟨Old.rf, by omega, Nat.le_refl _, by omega⟩⟩)
      | (refine ⟨rfl, h.2.1, cpT bs (List.replicate N 0) 0 0 bs.length, ⟨⟨ml, hGet_put_self⟩, hGet_put_ne (by omega) hGet_put_self, ⟨by rw [cpT_l, List.length_replicate]; omega, by rw [cpT_l, List.length_replicate]; omega, cpT_take (by omega) k3.1 k3.2.2⟩, ⟨by omega, k4.2.1, Nat.lt_succ_self _⟩⟩, Or.inr (Nat.le_refl _), by rw [cpT_l, List.length_replicate]; omega, by rw [cpT_l, List.length_replicate]; omega, ⟨⟨rfl, Nat.le_succ _, fun q hq hn => ?_⟩, Nat.le_refl _, Nat.le_add_right _ _, by show h.2.2.1 + N ≤ _; omega⟩⟩
         exact hGet_put_ne (fun e => hn (Or.inl e)) (hGet_put_ne (by omega) (hGet_new_ne (by omega) rfl)))
  · refine r_aload_n (pc := 17) dJ5_ensureCapacityInternal_d00df_17 rfl (by first | rfl | exact isRefV_rf _) ?_
    refine r_aload_n (pc := 18) dJ5_ensureCapacityInternal_d00df_18 rfl (by first | rfl | exact isRefV_rf _) ?_
    refine r_getf (pc := 19) dJ5_ensureCapacityInternal_d00df_19 fJ5_15 k1 rfl ?_
    refine r_aload_n (pc := 22) dJ5_ensureCapacityInternal_d00df_22 rfl (by first | rfl | exact isRefV_rf _) ?_
    refine r_iload_n (pc := 23) dJ5_ensureCapacityInternal_d00df_23 rfl ?_
    refine r_callVx (C := "java/lang/StringBuilder") (pc := 24) dJ5_ensureCapacityInternal_d00df_24 qJ5_newCapacity_0f7a4 kJ5_104 ⟨nJ5_newCapacity_0f7a4, eJ5_newCapacity_0f7a4⟩ (As := [.int (J (m : Int))]) rfl (fun hK hH => sb_recv k1 hK hH) rfl (Nat.le_of_ble_eq_true rfl) (jk_newCap d hB (by omega) (by omega)) (fun v_24 h_24 q_24 => ?_)
    obtain ⟨rfl, e_h⟩ := q_24; replace e_h := e_h.symm; subst e_h
    obtain ⟨N, eN, hN⟩ : ∃ N : Nat, ((bs.length : Int) + (if (m : Int) - bs.length < bs.length + 2 then (bs.length : Int) + 2 else m - bs.length)) = (N : Int) ∧ (bs.length < N ∧ m ≤ N ∧ N ≤ 202) := ⟨((bs.length : Int) + (if (m : Int) - bs.length < bs.length + 2 then (bs.length : Int) + 2 else m - bs.length)).toNat, by split <;> omega, by split <;> omega⟩
    rw [eN]
    refine r_aload_n (pc := 27) dJ5_ensureCapacityInternal_d00df_27 rfl (by first | rfl | exact isRefV_rf _) ?_
    refine r_getf (pc := 28) dJ5_ensureCapacityInternal_d00df_28 fJ5_22 k1 rfl ?_
    refine rj_shl0 (pc := 31) dJ5_ensureCapacityInternal_d00df_31 ?_
    refine r_callS2 (pc := 32) dJ5_ensureCapacityInternal_d00df_32 qJ7_copyOf_9075b kJ5_108 sJ7_copyOf_9075b (Nat.le_of_ble_eq_true rfl) (jk_copyOf _ hG k2 ⟨by omega, hlo⟩ (by omega)) (fun v_32 h_32 q_32 => ?_)
    obtain ⟨rfl, e_h⟩ := q_32; replace e_h := e_h.symm; subst e_h
    have k1' : hGet (hPut (hNew h N (byt (bJ (List.replicate N 0)))) h.2.1 (byt (bJ (cpT bs (List.replicate N 0) 0 0 bs.length)))) a = some (sbO b ml t.length) := hGet_put_ne (by omega) (hGet_new_ne (by omega) k1)
    refine r_putf (pc := 35) dJ5_ensureCapacityInternal_d00df_35 fJ5_15 k1' k4.2.1 rfl rfl (Nat.le_of_ble_eq_true rfl) ?_
    dsimp only [List.set]
    refine r_return (pc := 38) dJ5_ensureCapacityInternal_d00df_38 rfl ?_
    first
      | (have c38 : (m : Int) - bs.length ≤ 0 := by omega
         exact ⟨rfl, b, bs, hB, Or.inl rfl, by omega, hbs, ⟨Old.rf, by omega, Nat.le_refl _, by omega⟩⟩)
      | (refine ⟨rfl, h.2.1, cpT bs (List.replicate N 0) 0 0 bs.length, ⟨⟨ml, hGet_put_self⟩, hGet_put_ne (by omega) hGet_put_self, ⟨by rw [cpT_l, List.length_replicate]; omega, by rw [cpT_l, List.length_replicate]; omega, cpT_take (by omega) k3.1 k3.2.2⟩, ⟨by omega, k4.2.1, Nat.lt_succ_self _⟩⟩, Or.inr (Nat.le_refl _), by rw [cpT_l, List.length_replicate]; omega, by rw [cpT_l, List.length_replicate]; omega, ⟨⟨rfl, Nat.le_succ _, fun q hq hn => ?_⟩, Nat.le_refl _, Nat.le_add_right _ _, by show h.2.2.1 + N ≤ _; omega⟩⟩
         exact hGet_put_ne (fun e => hn (Or.inl e)) (hGet_put_ne (by omega) (hGet_new_ne (by omega) rfl)))
end K2
