/-! ===== StringBuilder: append(int), toString (by program) ===== -/
theorem ones_v : ∀ n, n < 100 → (kByt 16).getD n 0 = Int32.ofInt (48 + ((n % 10 : Nat) : Int)) := by decide +kernel
theorem tens_v : ∀ n, n < 100 → (kByt 17).getD n 0 = Int32.ofInt (48 + ((n / 10 : Nat) : Int)) := by decide +kernel
/-- a number's figures -/
def dg (i : Int) : List Int := if i < 10 then [48 + i] else [48 + i / 10, 48 + i % 10]
def dgW (i : Int) : Nat := if i < 10 then 1 else 2
theorem dg_l {i : Int} : (dg i).length = dgW i := by unfold dg dgW; split <;> rfl
def gcT (bs : List Int) (p : Nat) (i : Int) : List Int := if i < 10 then bs.set (p - 1) (48 + i % 10) else (bs.set (p - 1) (48 + i % 10)).set (p - 2) (48 + i / 10)
theorem gcT_l {bs : List Int} {p : Nat} {i : Int} : (gcT bs p i).length = bs.length := by unfold gcT; split <;> simp
theorem gcT_app {bs t : List Int} {i : Int} (h0 : 0 ≤ i ∧ i < 100) (h1 : t.length + dgW i ≤ bs.length) (h2 : bs.take t.length = t) : (gcT bs (t.length + dgW i) i).take (t ++ dg i).length = t ++ dg i := by
  have z : ∀ j, j < t.length → bs[j]? = t[j]? := fun j h3 => by
    have := congrArg (fun x => x[j]?) h2
    simpa [List.getElem?_take_of_lt h3] using this
  have hl : (t ++ dg i).length = t.length + dgW i := by rw [List.length_append, dg_l]
  refine List.ext_getElem? fun j => ?_
  by_cases hj : j < t.length + dgW i
  · rw [hl, List.getElem?_take_of_lt hj]
    by_cases hi : i < 10
    · have e1 : dgW i = 1 := by unfold dgW; rw [if_pos hi]
      have e2 : dg i = [48 + i] := by unfold dg; rw [if_pos hi]
      rw [e1] at hj h1 ⊢
      unfold gcT
      rw [if_pos hi, e2, List.getElem?_set]
      by_cases h3 : j < t.length
      · rw [if_neg (by omega), List.getElem?_append_left h3, z j h3]
      · obtain rfl : j = t.length := by omega
        rw [if_pos (by omega), if_pos (by omega), List.getElem?_append_right (Nat.le_refl _), Nat.sub_self, show i % 10 = i by omega]
        rfl
    · have e1 : dgW i = 2 := by unfold dgW; rw [if_neg hi]
      have e2 : dg i = [48 + i / 10, 48 + i % 10] := by unfold dg; rw [if_neg hi]
      rw [e1] at hj h1 ⊢
      unfold gcT
      rw [if_neg hi, e2, List.getElem?_set, List.getElem?_set, List.length_set]
      by_cases h3 : j < t.length
      · rw [if_neg (by omega), if_neg (by omega), List.getElem?_append_left h3, z j h3]
      · rw [List.getElem?_append_right (by omega)]
        by_cases h4 : j = t.length
        · subst h4
          rw [if_pos (by omega), if_pos (by omega), Nat.sub_self]
          rfl
        · obtain rfl : j = t.length + 1 := by omega
          rw [if_neg (by omega), if_pos (by omega), if_pos (by omega), show t.length + 1 - t.length = 1 by omega]
          rfl
  · rw [List.getElem?_eq_none (by rw [List.length_take, hl]; omega), List.getElem?_eq_none (by omega)]
theorem dg_ok {i : Int} (h0 : 0 ≤ i ∧ i < 100) : tOk (dg i) := by
  intro c hc
  unfold dg at hc
  split at hc
  · rw [List.mem_singleton.mp hc]; omega
  · rcases List.mem_cons.mp hc with q | q
    · rw [q]; omega
    · rw [List.mem_singleton.mp q]; omega
section K4
variable {G : mG} {l : Launch} {h : mH}
theorem rj_ones {d : Nat} {M : mM} {pc : Nat} {ls : List (Option Value)} {st : List Value} {Q : Option Value → mH → Prop} {i : Int} (hdg : decode M.2.1 pc = .ok (.baload, 1)) (h0 : 0 ≤ i ∧ i < 100) (K : RUN G l d M (pc + 1) ls (.int (J (48 + i % 10)) :: st) h Q) : RUN G l d M pc ls (.int (J i) :: .ref (kkV G 16) :: st) h Q := by
  have hr : InR i := by constructor <;> omega
  refine r_bald hdg (Or.inr ⟨16, by decide, rfl, rfl⟩) (J_in hr h0.1 (by show i < ((100 : Nat) : Int); omega)) ?_
  rw [J_cl h0.1 hr, ones_v _ (by omega), ← J_def, show (48 + ((i.toNat % 10 : Nat) : Int)) = 48 + i % 10 by omega]
  exact K
theorem rj_tens {d : Nat} {M : mM} {pc : Nat} {ls : List (Option Value)} {st : List Value} {Q : Option Value → mH → Prop} {i : Int} (hdg : decode M.2.1 pc = .ok (.baload, 1)) (h0 : 0 ≤ i ∧ i < 100) (K : RUN G l d M (pc + 1) ls (.int (J (48 + i / 10)) :: st) h Q) : RUN G l d M pc ls (.int (J i) :: .ref (kkV G 17) :: st) h Q := by
  have hr : InR i := by constructor <;> omega
  refine r_bald hdg (Or.inr ⟨17, by decide, rfl, rfl⟩) (J_in hr h0.1 (by show i < ((100 : Nat) : Int); omega)) ?_
  rw [J_cl h0.1 hr, tens_v _ (by omega), ← J_def, show (48 + ((i.toNat / 10 : Nat) : Int)) = 48 + i / 10 by omega]
  exact K
theorem L_ss2 (d : Nat) {i : Int} (h0 : 10 ≤ i ∧ i < 100) : RUN G l d mJ6_stringSize_0f7a4 16 [some (.int (J (-i))), some (.int (J 0)), some (.int (J (-100))), some (.int (J 2))] [] h (fun v h' => v = some (.int (J ((dgW i : Nat) : Int))) ∧ h' = h) := by
  have e : ((dgW i : Nat) : Int) = 2 := by unfold dgW; rw [if_neg (by omega)]; rfl
  rw [e]
  refine r_iload_n (pc := 16) dJ6_stringSize_0f7a4_16 rfl ?_
  refine rj_bipush (pc := 17) dJ6_stringSize_0f7a4_17 (by decide +kernel) ?_
  refine rj_icmp_ge (pc := 19) (tgt := 42) dJ6_stringSize_0f7a4_19 (by decide) (by first | exact b01_r | exact bz_r | omega | (constructor <;> omega) | apply_assumption | (apply atF_r; assumption) | fail "no range") (by first | exact b01_r | exact bz_r | omega | (constructor <;> omega) | apply_assumption | (apply atF_r; assumption) | fail "no range") (fun c_19 => ?_) (fun c_19 => ?_)
  · exfalso; first | omega | contradiction | (simp at *; done)
  · refine r_iload_n (pc := 22) dJ6_stringSize_0f7a4_22 rfl ?_
    refine r_iload_n (pc := 23) dJ6_stringSize_0f7a4_23 rfl ?_
    refine rj_icmp_le (pc := 24) (tgt := 31) dJ6_stringSize_0f7a4_24 (by decide) (by first | exact b01_r | exact bz_r | omega | (constructor <;> omega) | apply_assumption | (apply atF_r; assumption) | fail "no range") (by first | exact b01_r | exact bz_r | omega | (constructor <;> omega) | apply_assumption | (apply atF_r; assumption) | fail "no range") (fun c_24 => ?_) (fun c_24 => ?_)
    · exfalso; first | omega | contradiction | (simp at *; done)
    · refine r_iload_n (pc := 27) dJ6_stringSize_0f7a4_27 rfl ?_
      refine r_iload_n (pc := 28) dJ6_stringSize_0f7a4_28 rfl ?_
      refine rj_iadd (pc := 29) dJ6_stringSize_0f7a4_29 ?_
      refine r_ireturn (pc := 30) .int dJ6_stringSize_0f7a4_30 rfl (by first | rfl | assumption) ?_
      exact ⟨by rw [show ((2 : Int) + 0) = 2 by decide], rfl⟩
theorem L_ss1 (d : Nat) {i : Int} (h0 : 0 ≤ i ∧ i < 100) : RUN G l d mJ6_stringSize_0f7a4 16 [some (.int (J (-i))), some (.int (J 0)), some (.int (J (-10))), some (.int (J 1))] [] h (fun v h' => v = some (.int (J ((dgW i : Nat) : Int))) ∧ h' = h) := by
  refine r_iload_n (pc := 16) dJ6_stringSize_0f7a4_16 rfl ?_
  refine rj_bipush (pc := 17) dJ6_stringSize_0f7a4_17 (by decide +kernel) ?_
  refine rj_icmp_ge (pc := 19) (tgt := 42) dJ6_stringSize_0f7a4_19 (by decide) (by first | exact b01_r | exact bz_r | omega | (constructor <;> omega) | apply_assumption | (apply atF_r; assumption) | fail "no range") (by first | exact b01_r | exact bz_r | omega | (constructor <;> omega) | apply_assumption | (apply atF_r; assumption) | fail "no range") (fun c_19 => ?_) (fun c_19 => ?_)
  · exfalso; first | omega | contradiction | (simp at *; done)
  · refine r_iload_n (pc := 22) dJ6_stringSize_0f7a4_22 rfl ?_
    refine r_iload_n (pc := 23) dJ6_stringSize_0f7a4_23 rfl ?_
    refine rj_icmp_le (pc := 24) (tgt := 31) dJ6_stringSize_0f7a4_24 (by decide) (by first | exact b01_r | exact bz_r | omega | (constructor <;> omega) | apply_assumption | (apply atF_r; assumption) | fail "no range") (by first | exact b01_r | exact bz_r | omega | (constructor <;> omega) | apply_assumption | (apply atF_r; assumption) | fail "no range") (fun c_24 => ?_) (fun c_24 => ?_)
    · refine rj_bipush (pc := 31) dJ6_stringSize_0f7a4_31 (by decide +kernel) ?_
      refine r_iload_n (pc := 33) dJ6_stringSize_0f7a4_33 rfl ?_
      refine rj_imul (pc := 34) dJ6_stringSize_0f7a4_34 ?_
      refine r_istore_n (pc := 35) dJ6_stringSize_0f7a4_35 (Nat.le_of_ble_eq_true rfl) ?_
      dsimp only [lsSt, List.set, mLs, mEnt]
      refine rj_iinc (pc := 36) dJ6_stringSize_0f7a4_36 (Nat.le_of_ble_eq_true rfl) rfl ?_
      dsimp only [lsSt, List.set, mLs, mEnt]
      refine r_goto (pc := 39) (tgt := 16) dJ6_stringSize_0f7a4_39 (by decide) ?_
      rw [show ((10 : Int) * -10) = -100 by decide, show ((1 : Int) + 1) = 2 by decide]
      exact L_ss2 d ⟨by omega, by omega⟩
    · refine r_iload_n (pc := 27) dJ6_stringSize_0f7a4_27 rfl ?_
      refine r_iload_n (pc := 28) dJ6_stringSize_0f7a4_28 rfl ?_
      refine rj_iadd (pc := 29) dJ6_stringSize_0f7a4_29 ?_
      refine r_ireturn (pc := 30) .int dJ6_stringSize_0f7a4_30 rfl (by first | rfl | assumption) ?_
      have e : ((dgW i : Nat) : Int) = 1 := by unfold dgW; rw [if_pos (by omega)]; rfl
      rw [e]
      exact ⟨by rw [show ((1 : Int) + 0) = 1 by decide], rfl⟩
set_option maxHeartbeats 4000000 in
theorem jk_size (d : Nat) {i : Int} (h0 : 0 ≤ i ∧ i < 100) : RUNM G l (d) mJ6_stringSize_0f7a4 [.int (J i)] h (fun v h' => v = some (.int (J ((dgW i : Nat) : Int))) ∧ h' = h) := by
  refine RUNM.of (by decide +kernel) (Nat.le_of_ble_eq_true rfl) ?_
  refine rj_iconst (pc := 0) dJ6_stringSize_0f7a4_0 ?_
  refine r_istore_n (pc := 1) dJ6_stringSize_0f7a4_1 (Nat.le_of_ble_eq_true rfl) ?_
  dsimp only [lsSt, List.set, mLs, mEnt]
  refine r_iload_n (pc := 2) dJ6_stringSize_0f7a4_2 rfl ?_
  refine rj_if_lt (pc := 3) (tgt := 11) dJ6_stringSize_0f7a4_3 (by decide) (by first | exact b01_r | exact bz_r | omega | (constructor <;> omega) | apply_assumption | (apply atF_r; assumption) | fail "no range") (fun c_3 => ?_) (fun c_3 => ?_)
  · exfalso; first | omega | contradiction | (simp at *; done)
  · refine rj_iconst (pc := 6) dJ6_stringSize_0f7a4_6 ?_
    refine r_istore_n (pc := 7) dJ6_stringSize_0f7a4_7 (Nat.le_of_ble_eq_true rfl) ?_
    dsimp only [lsSt, List.set, mLs, mEnt]
    refine r_iload_n (pc := 8) dJ6_stringSize_0f7a4_8 rfl ?_
    refine rj_ineg (pc := 9) dJ6_stringSize_0f7a4_9 ?_
    refine r_istore_n (pc := 10) dJ6_stringSize_0f7a4_10 (Nat.le_of_ble_eq_true rfl) ?_
    dsimp only [lsSt, List.set, mLs, mEnt]
    refine rj_bipush (pc := 11) dJ6_stringSize_0f7a4_11 (by decide +kernel) ?_
    refine r_istore_n (pc := 13) dJ6_stringSize_0f7a4_13 (Nat.le_of_ble_eq_true rfl) ?_
    dsimp only [lsSt, List.set, mLs, mEnt]
    refine rj_iconst (pc := 14) dJ6_stringSize_0f7a4_14 ?_
    refine r_istore_n (pc := 15) dJ6_stringSize_0f7a4_15 (Nat.le_of_ble_eq_true rfl) ?_
    dsimp only [lsSt, List.set, mLs, mEnt]
    exact L_ss1 d h0
set_option maxHeartbeats 4000000 in
theorem jk_getChars (d : Nat) {b : Nat} {bs : List Int} (hb : hGet h b = some (byt (bJ bs))) (hlo : h.1 ≤ b) {i : Int} (h0 : 0 ≤ i ∧ i < 100) {p : Nat} (hp : dgW i ≤ p ∧ p ≤ bs.length ∧ p ≤ 1000) : RUNM G l (d) mJ6_getChars_ba4f3 [.int (J i), .int (J (p : Int)), .ref b] h (fun v h' => (∃ q : Int32, v = some (.int q)) ∧ hGet h' b = some (byt (bJ (gcT bs p i))) ∧ Same (fun q => q = b) h h') := by
  have hp1 : 1 ≤ p := by have := hp.1; unfold dgW at this; split at this <;> omega
  refine RUNM.of (by decide +kernel) (Nat.le_of_ble_eq_true rfl) ?_
  refine r_iload_n (pc := 0) dJ6_getChars_ba4f3_0 rfl ?_
  refine r_istore (pc := 1) dJ6_getChars_ba4f3_1 (Nat.le_of_ble_eq_true rfl) ?_
  dsimp only [lsSt, List.set, mLs, mEnt]
  refine r_iload_n (pc := 3) dJ6_getChars_ba4f3_3 rfl ?_
  refine rj_if_ge (pc := 4) (tgt := 11) dJ6_getChars_ba4f3_4 (by decide) (by first | exact b01_r | exact bz_r | omega | (constructor <;> omega) | apply_assumption | (apply atF_r; assumption) | fail "no range") (fun c_4 => ?_) (fun c_4 => ?_)
  · refine rj_iconst (pc := 11) dJ6_getChars_ba4f3_11 ?_
    refine r_istore (pc := 12) dJ6_getChars_ba4f3_12 (Nat.le_of_ble_eq_true rfl) ?_
    dsimp only [lsSt, List.set, mLs, mEnt]
    refine r_iload (pc := 14) dJ6_getChars_ba4f3_14 rfl ?_
    refine rj_if_ne (pc := 16) (tgt := 22) dJ6_getChars_ba4f3_16 (by decide) (by first | exact b01_r | exact bz_r | omega | (constructor <;> omega) | apply_assumption | (apply atF_r; assumption) | fail "no range") (fun c_16 => ?_) (fun c_16 => ?_)
    · try simp only [b01_0, bz_0, Classical.not_not] at c_16
      exfalso; first | omega | contradiction | (simp at *; done)
    · try simp only [b01_0, bz_0, Classical.not_not] at c_16
      refine r_iload_n (pc := 19) dJ6_getChars_ba4f3_19 rfl ?_
      refine rj_ineg (pc := 20) dJ6_getChars_ba4f3_20 ?_
      refine r_istore_n (pc := 21) dJ6_getChars_ba4f3_21 (Nat.le_of_ble_eq_true rfl) ?_
      dsimp only [lsSt, List.set, mLs, mEnt]
      refine r_iload_n (pc := 22) dJ6_getChars_ba4f3_22 rfl ?_
      refine rj_bipush (pc := 23) dJ6_getChars_ba4f3_23 (by decide +kernel) ?_
      refine rj_icmp_gt (pc := 25) (tgt := 72) dJ6_getChars_ba4f3_25 (by decide) (by first | exact b01_r | exact bz_r | omega | (constructor <;> omega) | apply_assumption | (apply atF_r; assumption) | fail "no range") (by first | exact b01_r | exact bz_r | omega | (constructor <;> omega) | apply_assumption | (apply atF_r; assumption) | fail "no range") (fun c_25 => ?_) (fun c_25 => ?_)
      · refine r_aload_n (pc := 72) dJ6_getChars_ba4f3_72 rfl (by first | rfl | exact isRefV_rf _) ?_
        refine rj_iinc (pc := 73) dJ6_getChars_ba4f3_73 (Nat.le_of_ble_eq_true rfl) rfl ?_
        dsimp only [lsSt, List.set, mLs, mEnt]
        refine r_iload (pc := 76) dJ6_getChars_ba4f3_76 rfl ?_
        refine r_getOnes (pc := 78) dJ6_getChars_ba4f3_78 gJ6_83 ?_
        refine r_iload_n (pc := 81) dJ6_getChars_ba4f3_81 rfl ?_
        refine rj_ineg (pc := 82) dJ6_getChars_ba4f3_82 ?_
        rw [Int.neg_neg]
        refine rj_ones (pc := 83) dJ6_getChars_ba4f3_83 h0 ?_
        refine rj_bast (pc := 84) dJ6_getChars_ba4f3_84 hb hlo (by (try simp only [List.length_set]); omega) (by constructor <;> omega) (by omega) ?_
        rw [show ((p : Int) + -1).toNat = p - 1 by omega]
        refine r_iload_n (pc := 85) dJ6_getChars_ba4f3_85 rfl ?_
        refine rj_bipush (pc := 86) dJ6_getChars_ba4f3_86 (by decide +kernel) ?_
        refine rj_icmp_ge (pc := 88) (tgt := 104) dJ6_getChars_ba4f3_88 (by decide) (by first | exact b01_r | exact bz_r | omega | (constructor <;> omega) | apply_assumption | (apply atF_r; assumption) | fail "no range") (by first | exact b01_r | exact bz_r | omega | (constructor <;> omega) | apply_assumption | (apply atF_r; assumption) | fail "no range") (fun c_88 => ?_) (fun c_88 => ?_)
        · refine r_iload (pc := 104) dJ6_getChars_ba4f3_104 rfl ?_
          refine rj_if_eq (pc := 106) (tgt := 118) dJ6_getChars_ba4f3_106 (by decide) (by first | exact b01_r | exact bz_r | omega | (constructor <;> omega) | apply_assumption | (apply atF_r; assumption) | fail "no range") (fun c_106 => ?_) (fun c_106 => ?_)
          · try simp only [b01_0, bz_0, Classical.not_not] at c_106
            refine r_iload (pc := 118) dJ6_getChars_ba4f3_118 rfl ?_
            refine r_ireturn (pc := 120) .int dJ6_getChars_ba4f3_120 rfl (by first | rfl | assumption) ?_
            first
              | (refine ⟨⟨_, rfl⟩, ?_, Same.put (P := fun q => q = b) Same.refl rfl⟩
                 unfold gcT; rw [if_pos (by omega)]; exact hGet_put_self)
              | (refine ⟨⟨_, rfl⟩, ?_, Same.put (P := fun q => q = b) (Same.put (P := fun q => q = b) Same.refl rfl) rfl⟩
                 unfold gcT; rw [if_neg (by omega)]; exact hGet_put_self)
          · try simp only [b01_0, bz_0, Classical.not_not] at c_106
            exfalso; first | omega | contradiction | (simp at *; done)
        · refine r_aload_n (pc := 91) dJ6_getChars_ba4f3_91 rfl (by first | rfl | exact isRefV_rf _) ?_
          refine rj_iinc (pc := 92) dJ6_getChars_ba4f3_92 (Nat.le_of_ble_eq_true rfl) rfl ?_
          dsimp only [lsSt, List.set, mLs, mEnt]
          refine r_iload (pc := 95) dJ6_getChars_ba4f3_95 rfl ?_
          refine r_getTens (pc := 97) dJ6_getChars_ba4f3_97 gJ6_87 ?_
          refine r_iload_n (pc := 100) dJ6_getChars_ba4f3_100 rfl ?_
          refine rj_ineg (pc := 101) dJ6_getChars_ba4f3_101 ?_
          rw [Int.neg_neg]
          refine rj_tens (pc := 102) dJ6_getChars_ba4f3_102 h0 ?_
          have hp2 : 2 ≤ p := by have := hp.1; unfold dgW at this; rw [if_neg (by omega)] at this; exact this
          refine rj_bast (pc := 103) dJ6_getChars_ba4f3_103 hGet_put_self hlo (by (try simp only [List.length_set]); omega) (by constructor <;> omega) (by omega) ?_
          rw [show ((p : Int) + -1 + -1).toNat = p - 2 by omega]
          refine r_iload (pc := 104) dJ6_getChars_ba4f3_104 rfl ?_
          refine rj_if_eq (pc := 106) (tgt := 118) dJ6_getChars_ba4f3_106 (by decide) (by first | exact b01_r | exact bz_r | omega | (constructor <;> omega) | apply_assumption | (apply atF_r; assumption) | fail "no range") (fun c_106 => ?_) (fun c_106 => ?_)
          · try simp only [b01_0, bz_0, Classical.not_not] at c_106
            refine r_iload (pc := 118) dJ6_getChars_ba4f3_118 rfl ?_
            refine r_ireturn (pc := 120) .int dJ6_getChars_ba4f3_120 rfl (by first | rfl | assumption) ?_
            first
              | (refine ⟨⟨_, rfl⟩, ?_, Same.put (P := fun q => q = b) Same.refl rfl⟩
                 unfold gcT; rw [if_pos (by omega)]; exact hGet_put_self)
              | (refine ⟨⟨_, rfl⟩, ?_, Same.put (P := fun q => q = b) (Same.put (P := fun q => q = b) Same.refl rfl) rfl⟩
                 unfold gcT; rw [if_neg (by omega)]; exact hGet_put_self)
          · try simp only [b01_0, bz_0, Classical.not_not] at c_106
            exfalso; first | omega | contradiction | (simp at *; done)
      · exfalso; first | omega | contradiction | (simp at *; done)
  · exfalso; first | omega | contradiction | (simp at *; done)
set_option maxHeartbeats 4000000 in
theorem jk_appD0 (d : Nat) (hG : G.2.map Prod.snd = mTy) {a b : Nat} {bs t : List Int} (hB : isSB h a b bs t) {i : Int} (h0 : 0 ≤ i ∧ i < 100) (hlo : h.1 ≤ h.2.1) (hm : t.length + dgW i ≤ 100) (hbs : bs.length ≤ 202) : RUNM G l (d + 4) mJ5_append_c97b9 [.ref a, .int (J i)] h (fun v h' => v = some (.ref a) ∧ ∃ (b' : Nat) (bs' : List Int), isSB h' a b' bs' (t ++ dg i) ∧ (b' = b ∨ h.2.1 ≤ b') ∧ bs'.length ≤ 202 ∧ SBs a b 1 202 h h') := by
  obtain ⟨⟨ml, k1⟩, k2, k3, k4⟩ := id hB
  refine RUNM.of (by decide +kernel) (Nat.le_of_ble_eq_true rfl) ?_
  refine r_aload_n (pc := 0) dJ5_append_c97b9_0 rfl (by first | rfl | exact isRefV_rf _) ?_
  refine r_getf (pc := 1) dJ5_append_c97b9_1 fJ5_79 k1 rfl ?_
  refine r_istore_n (pc := 4) dJ5_append_c97b9_4 (Nat.le_of_ble_eq_true rfl) ?_
  dsimp only [lsSt, List.set, mLs, mEnt]
  refine r_iload_n (pc := 5) dJ5_append_c97b9_5 rfl ?_
  refine r_iload_n (pc := 6) dJ5_append_c97b9_6 rfl ?_
  refine r_callS1 (pc := 7) dJ5_append_c97b9_7 qJ6_stringSize_0f7a4 kJ5_245 sJ6_stringSize_0f7a4 (Nat.le_of_ble_eq_true rfl) (jk_size _ h0) (fun v_7 h_7 q_7 => ?_)
  obtain ⟨rfl, e_h⟩ := q_7; replace e_h := e_h.symm; subst e_h
  refine rj_iadd (pc := 10) dJ5_append_c97b9_10 ?_
  refine r_istore_n (pc := 11) dJ5_append_c97b9_11 (Nat.le_of_ble_eq_true rfl) ?_
  dsimp only [lsSt, List.set, mLs, mEnt]
  refine r_aload_n (pc := 12) dJ5_append_c97b9_12 rfl (by first | rfl | exact isRefV_rf _) ?_
  refine r_iload_n (pc := 13) dJ5_append_c97b9_13 rfl ?_
  rw [show ((t.length : Int) + ((dgW i : Nat) : Int)) = ((t.length + dgW i : Nat) : Int) by omega]
  refine r_callVx (C := "java/lang/StringBuilder") (pc := 14) dJ5_append_c97b9_14 qJ5_ensureCapacityInternal_d00df kJ5_100 ⟨nJ5_ensureCapacityInternal_d00df, eJ5_ensureCapacityInternal_d00df⟩ (As := [.int (J ((t.length + dgW i : Nat) : Int))]) rfl (fun hK hH => sb_recv k1 hK hH) rfl (Nat.le_of_ble_eq_true rfl) (jk_ensure d hG hB hlo hm hbs) (fun v_14 h_14 q_14 => ?_)
  obtain ⟨rfl, b2, bs2, hB2, hb2, hm2, hz2, hS2⟩ := q_14
  obtain ⟨⟨ml2, k1⟩, k2, k3, k4⟩ := id hB2
  refine r_aload_n (pc := 17) dJ5_append_c97b9_17 rfl (by first | rfl | exact isRefV_rf _) ?_
  refine r_callVx (C := "java/lang/StringBuilder") (pc := 18) dJ5_append_c97b9_18 qJ5_isLatin1_aae02 kJ5_83 ⟨nJ5_isLatin1_aae02, eJ5_isLatin1_aae02⟩ (As := []) rfl (fun hK hH => sb_recv k1 hK hH) rfl (Nat.le_of_ble_eq_true rfl) (jk_sbLatin _ hB2) (fun v_18 h_18 q_18 => ?_)
  obtain ⟨rfl, e_h⟩ := q_18; replace e_h := e_h.symm; subst e_h
  refine rj_if_eq (pc := 21) (tgt := 37) dJ5_append_c97b9_21 (by decide) (by first | exact b01_r | exact bz_r | omega | (constructor <;> omega) | apply_assumption | (apply atF_r; assumption) | fail "no range") (fun c_21 => ?_) (fun c_21 => ?_)
  · try simp only [b01_0, bz_0, Classical.not_not] at c_21
    exfalso; first | omega | contradiction | (simp at *; done)
  · try simp only [b01_0, bz_0, Classical.not_not] at c_21
    refine r_iload_n (pc := 24) dJ5_append_c97b9_24 rfl ?_
    refine r_iload_n (pc := 25) dJ5_append_c97b9_25 rfl ?_
    refine r_aload_n (pc := 26) dJ5_append_c97b9_26 rfl (by first | rfl | exact isRefV_rf _) ?_
    refine r_getf (pc := 27) dJ5_append_c97b9_27 fJ5_15 k1 rfl ?_
    refine r_callS3 (pc := 30) dJ5_append_c97b9_30 qJ6_getChars_ba4f3 kJ5_248 sJ6_getChars_ba4f3 (Nat.le_of_ble_eq_true rfl) (jk_getChars _ k2 (by omega) h0 ⟨by omega, hm2, by omega⟩) (fun v_30 h_30 q_30 => ?_)
    obtain ⟨⟨q30, rfl⟩, g30, s30⟩ := q_30
    refine r_pop (pc := 33) dJ5_append_c97b9_33 rfl ?_
    refine r_goto (pc := 34) (tgt := 48) dJ5_append_c97b9_34 (by decide) ?_
    refine r_aload_n (pc := 48) dJ5_append_c97b9_48 rfl (by first | rfl | exact isRefV_rf _) ?_
    refine r_iload_n (pc := 49) dJ5_append_c97b9_49 rfl ?_
    have k5 : hGet h_30 a = some (sbO b2 ml2 t.length) := (s30.2.2.2 a (by omega)).trans k1
    refine r_putf (pc := 50) dJ5_append_c97b9_50 fJ5_79 k5 (by rw [s30.1]; omega) rfl rfl (Nat.le_of_ble_eq_true rfl) ?_
    dsimp only [List.set]
    refine r_aload_n (pc := 53) dJ5_append_c97b9_53 rfl (by first | rfl | exact isRefV_rf _) ?_
    refine r_areturn (pc := 54) _ dJ5_append_c97b9_54 rfl (by first | exact Or.inl ⟨_, rfl⟩ | exact Or.inr ⟨_, rfl⟩) (by first | rfl | exact isRefV_rf _) ?_
    have e1 := s30.1
    have e2 := s30.2.1
    have e3 := s30.2.2.1
    refine ⟨rfl, b2, gcT bs2 (t.length + dgW i) i, ⟨⟨ml2, by rw [List.length_append, dg_l]; exact hGet_put_self⟩, hGet_put_ne (by omega) g30, ⟨by rw [gcT_l, List.length_append, dg_l]; exact hm2, by rw [gcT_l]; omega, gcT_app h0 hm2 k3.2.2⟩, ⟨by omega, by show h_30.1 ≤ a; omega, by show b2 < h_30.2.1; omega⟩⟩, hb2, by rw [gcT_l]; exact hz2, ⟨⟨e1.trans hS2.1.1, by show h.2.1 ≤ h_30.2.1; have := hS2.1.2.1; omega, fun q hq hn => ?_⟩, by show h_30.2.1 ≤ _; have := hS2.2.1; omega, by show _ ≤ h_30.2.2.1; have := hS2.2.2.1; omega, by show h_30.2.2.1 ≤ _; have := hS2.2.2.2; omega⟩⟩
    have hn1 : q ≠ a := fun e => hn (Or.inl e)
    have hn2 : q ≠ b2 := fun e => by rcases hb2 with z | z; exact hn (Or.inr (e.trans z)); omega
    exact hGet_put_ne hn1 ((s30.2.2.2 q hn2).trans (hS2.1.2.2 q hq hn))
set_option maxHeartbeats 4000000 in
theorem jk_appD (d : Nat) (hG : G.2.map Prod.snd = mTy) {a b : Nat} {bs t : List Int} (hB : isSB h a b bs t) {i : Int} (h0 : 0 ≤ i ∧ i < 100) (hlo : h.1 ≤ h.2.1) (hm : t.length + dgW i ≤ 100) (hbs : bs.length ≤ 202) : RUNM G l (d + 5) mJ4_append_bf812 [.ref a, .int (J i)] h (fun v h' => v = some (.ref a) ∧ ∃ (b' : Nat) (bs' : List Int), isSB h' a b' bs' (t ++ dg i) ∧ (b' = b ∨ h.2.1 ≤ b') ∧ bs'.length ≤ 202 ∧ SBs a b 1 202 h h') := by
  obtain ⟨⟨ml, k1⟩, k2, k3, k4⟩ := id hB
  refine RUNM.of (by decide +kernel) (Nat.le_of_ble_eq_true rfl) ?_
  refine r_aload_n (pc := 0) dJ4_append_bf812_0 rfl (by first | rfl | exact isRefV_rf _) ?_
  refine r_iload_n (pc := 1) dJ4_append_bf812_1 rfl ?_
  refine r_callSU (ci := 12) (r := (RJ4, TJ4, 4)) (pc := 2) dJ4_append_bf812_2 qJ5_append_c97b9 (lw_use_in (u5 (List.mem_of_getElem? (i := 167) rfl)) rfl) zJ5_append_c97b9 jSuper nJ5_append_c97b9 (by decide +kernel) (As := [.int (J i)]) rfl k1 rfl rfl (Nat.le_of_ble_eq_true rfl) (jk_appD0 d hG hB h0 hlo hm hbs) (fun v_2 h_2 q_2 => ?_)
  obtain ⟨rfl, q2⟩ := q_2
  refine r_pop (pc := 5) dJ4_append_bf812_5 (by first | rfl | (cases ‹Option Nat› <;> rfl)) ?_
  refine r_aload_n (pc := 6) dJ4_append_bf812_6 rfl (by first | rfl | exact isRefV_rf _) ?_
  refine r_areturn (pc := 7) _ dJ4_append_bf812_7 rfl (by first | exact Or.inl ⟨_, rfl⟩ | exact Or.inr ⟨_, rfl⟩) (by first | rfl | exact isRefV_rf _) ?_
  exact ⟨rfl, q2⟩
set_option maxHeartbeats 4000000 in
theorem jk_ckLen (d : Nat) {i n : Int} (h0 : i ≤ n) (hi : InR i) (hn : InR n) : RUNM G l (d) mJ7_checkLength_df160 [.int (J i), .int (J n)] h (fun v h' => v = none ∧ h' = h) := by
  refine RUNM.of (by decide +kernel) (Nat.le_of_ble_eq_true rfl) ?_
  refine r_iload_n (pc := 0) dJ7_checkLength_df160_0 rfl ?_
  refine r_iload_n (pc := 1) dJ7_checkLength_df160_1 rfl ?_
  refine rj_icmp_ge (pc := 2) (tgt := 37) dJ7_checkLength_df160_2 (by decide) (by first | exact b01_r | exact bz_r | omega | (constructor <;> omega) | apply_assumption | (apply atF_r; assumption) | fail "no range") (by first | exact b01_r | exact bz_r | omega | (constructor <;> omega) | apply_assumption | (apply atF_r; assumption) | fail "no range") (fun c_2 => ?_) (fun c_2 => ?_)
  · refine r_return (pc := 37) dJ7_checkLength_df160_37 rfl ?_
    exact ⟨rfl, rfl⟩
  · exfalso; first | omega | contradiction | (simp at *; done)
theorem cpT_all {bs : List Int} {n : Nat} (hn : n ≤ bs.length) : cpT bs (List.replicate n 0) 0 0 n = bs.take n := by
  refine List.ext_getElem? fun j => ?_
  by_cases hj : j < n
  · rw [List.getElem?_take_of_lt hj, cpT_get (by rw [List.length_replicate]; exact hj)]
    have e : va_cpy (fun j => bs.getD j 0) (fun j => (List.replicate n (0 : Int)).getD j 0) 0 0 n j = bs.getD j 0 := by
      unfold va_cpy
      rw [if_pos ⟨Nat.zero_le _, by omega⟩]
      show bs.getD (0 + (j - 0)) 0 = _
      rw [Nat.zero_add, Nat.sub_zero]
    rw [e, List.getD_eq_getElem?_getD, List.getElem?_eq_getElem (by omega)]
    rfl
  · rw [List.getElem?_eq_none (by rw [cpT_l, List.length_replicate]; omega), List.getElem?_eq_none (by rw [List.length_take]; omega)]
/-- a copy of n bytes is made -/
def MK (n : Nat) (h h' : mH) : Prop := Old (fun _ => False) h h' ∧ h'.2.1 = h.2.1 + 1 ∧ h'.2.2.1 = h.2.2.1 + n
set_option maxHeartbeats 4000000 in
theorem jk_cpRB (d : Nat) (hG : G.2.map Prod.snd = mTy) {b : Nat} {bs : List Int} (hb : hGet h b = some (byt (bJ bs))) (hz : b < h.2.1 ∧ h.1 ≤ b) {n : Nat} (hn : n ≤ bs.length ∧ bs.length ≤ 300) : RUNM G l (d + 1) mJ7_copyOfRangeByte_39247 [.ref b, .int (J 0), .int (J (n : Int))] h (fun v h' => v = some (.ref h.2.1) ∧ hGet h' h.2.1 = some (byt (bJ (bs.take n))) ∧ MK n h h') := by
  refine RUNM.of (by decide +kernel) (Nat.le_of_ble_eq_true rfl) ?_
  refine r_iload_n (pc := 0) dJ7_copyOfRangeByte_39247_0 rfl ?_
  refine r_iload_n (pc := 1) dJ7_copyOfRangeByte_39247_1 rfl ?_
  refine r_callS2 (pc := 2) dJ7_copyOfRangeByte_39247_2 qJ7_checkLength_df160 kJ7_343 sJ7_checkLength_df160 (Nat.le_of_ble_eq_true rfl) (jk_ckLen _ (by omega) (by decide) (by constructor <;> omega)) (fun v_2 h_2 q_2 => ?_)
  obtain ⟨rfl, e_h⟩ := q_2; replace e_h := e_h.symm; subst e_h
  refine r_iload_n (pc := 5) dJ7_copyOfRangeByte_39247_5 rfl ?_
  refine r_iload_n (pc := 6) dJ7_copyOfRangeByte_39247_6 rfl ?_
  refine rj_isub (pc := 7) dJ7_copyOfRangeByte_39247_7 ?_
  rw [Int.sub_zero]
  refine r_istore_n (pc := 8) dJ7_copyOfRangeByte_39247_8 (Nat.le_of_ble_eq_true rfl) ?_
  dsimp only [lsSt, List.set, mLs, mEnt]
  refine r_iload_n (pc := 9) dJ7_copyOfRangeByte_39247_9 rfl ?_
  refine rj_newaB (pc := 10) dJ7_copyOfRangeByte_39247_10 hG (by omega) ?_
  have hb' : hGet (hNew h n (byt (bJ (List.replicate n 0)))) b = some (byt (bJ bs)) := hGet_new_ne (by omega) hb
  refine r_astore (pc := 12) dJ7_copyOfRangeByte_39247_12 (Nat.le_of_ble_eq_true rfl) (by first | rfl | exact isRefV_rf _) ?_
  dsimp only [lsSt, List.set, mLs, mEnt]
  refine r_aload_n (pc := 14) dJ7_copyOfRangeByte_39247_14 rfl (by first | rfl | exact isRefV_rf _) ?_
  refine r_iload_n (pc := 15) dJ7_copyOfRangeByte_39247_15 rfl ?_
  refine r_aload (pc := 16) dJ7_copyOfRangeByte_39247_16 rfl (by first | rfl | exact isRefV_rf _) ?_
  refine rj_iconst (pc := 18) dJ7_copyOfRangeByte_39247_18 ?_
  refine r_aload_n (pc := 19) dJ7_copyOfRangeByte_39247_19 rfl (by first | rfl | exact isRefV_rf _) ?_
  refine rj_alenB (pc := 20) dJ7_copyOfRangeByte_39247_20 (Or.inl hb') ?_
  refine r_iload_n (pc := 21) dJ7_copyOfRangeByte_39247_21 rfl ?_
  refine rj_isub (pc := 22) dJ7_copyOfRangeByte_39247_22 ?_
  rw [Int.sub_zero]
  refine r_iload_n (pc := 23) dJ7_copyOfRangeByte_39247_23 rfl ?_
  refine rj_mmin (pc := 24) dJ7_copyOfRangeByte_39247_24 (lw_use_in (u5 (List.mem_of_getElem? (i := 18) rfl)) rfl) (Nat.le_of_ble_eq_true rfl) (by constructor <;> omega) (by constructor <;> omega) ?_
  rw [show (if (n : Int) < (bs.length : Int) then (n : Int) else (bs.length : Int)) = (n : Int) by split <;> omega]
  refine rj_copyB (pc := 27) (sp := 0) (dp := 0) (n := n) dJ7_copyOfRangeByte_39247_27 kJ7_150 (Or.inl hb') hGet_new_self (by show h.1 ≤ h.2.1; omega) (by omega) (by rw [List.length_replicate]; omega) (by rw [List.length_replicate]; omega) (Nat.le_of_ble_eq_true rfl) ?_
  refine r_aload (pc := 30) dJ7_copyOfRangeByte_39247_30 rfl (by first | rfl | exact isRefV_rf _) ?_
  refine r_areturn (pc := 32) _ dJ7_copyOfRangeByte_39247_32 rfl (by first | exact Or.inl ⟨_, rfl⟩ | exact Or.inr ⟨_, rfl⟩) (by first | rfl | exact isRefV_rf _) ?_
  refine ⟨rfl, by rw [← cpT_all hn.1]; exact hGet_put_self, ⟨rfl, Nat.le_succ _, fun q hq _ => hGet_put_ne (by omega) (hGet_new_ne (by omega) rfl)⟩, rfl, rfl⟩
set_option maxHeartbeats 4000000 in
theorem jk_cpR (d : Nat) (hG : G.2.map Prod.snd = mTy) {b : Nat} {bs : List Int} (hb : hGet h b = some (byt (bJ bs))) (hz : b < h.2.1 ∧ h.1 ≤ b) {n : Nat} (hn : n ≤ bs.length ∧ bs.length ≤ 300) : RUNM G l (d + 2) mJ7_copyOfRange_39247 [.ref b, .int (J 0), .int (J (n : Int))] h (fun v h' => v = some (.ref h.2.1) ∧ hGet h' h.2.1 = some (byt (bJ (bs.take n))) ∧ MK n h h') := by
  refine RUNM.of (by decide +kernel) (Nat.le_of_ble_eq_true rfl) ?_
  refine r_iload_n (pc := 0) dJ7_copyOfRange_39247_0 rfl ?_
  refine rj_if_ne (pc := 1) (tgt := 10) dJ7_copyOfRange_39247_1 (by decide) (by first | exact b01_r | exact bz_r | omega | (constructor <;> omega) | apply_assumption | (apply atF_r; assumption) | fail "no range") (fun c_1 => ?_) (fun c_1 => ?_)
  · try simp only [b01_0, bz_0, Classical.not_not] at c_1
    exfalso; first | omega | contradiction | (simp at *; done)
  · try simp only [b01_0, bz_0, Classical.not_not] at c_1
    refine r_iload_n (pc := 4) dJ7_copyOfRange_39247_4 rfl ?_
    refine r_aload_n (pc := 5) dJ7_copyOfRange_39247_5 rfl (by first | rfl | exact isRefV_rf _) ?_
    refine rj_alenB (pc := 6) dJ7_copyOfRange_39247_6 (Or.inl hb) ?_
    refine rj_icmp_eq (pc := 7) (tgt := 17) dJ7_copyOfRange_39247_7 (by decide) (by first | exact b01_r | exact bz_r | omega | (constructor <;> omega) | apply_assumption | (apply atF_r; assumption) | fail "no range") (by first | exact b01_r | exact bz_r | omega | (constructor <;> omega) | apply_assumption | (apply atF_r; assumption) | fail "no range") (fun c_7 => ?_) (fun c_7 => ?_)
    · refine r_aload_n (pc := 17) dJ7_copyOfRange_39247_17 rfl (by first | rfl | exact isRefV_rf _) ?_
      obtain rfl : n = bs.length := by omega
      refine r_cloneB (pc := 18) dJ7_copyOfRange_39247_18 kJ7_310 jClone hb hz.2 (Nat.le_of_ble_eq_true rfl) ?_
      refine r_castB (pc := 21) dJ7_copyOfRange_39247_21 aJ7_311 hGet_new_self ?_
      refine r_areturn (pc := 24) _ dJ7_copyOfRange_39247_24 rfl (by first | exact Or.inl ⟨_, rfl⟩ | exact Or.inr ⟨_, rfl⟩) (by first | rfl | exact isRefV_rf _) ?_
      exact ⟨rfl, by rw [List.take_length]; exact hGet_new_self, ⟨rfl, Nat.le_succ _, fun q hq _ => hGet_new_ne (by omega) rfl⟩, rfl, by rw [bJ_l]; rfl⟩
    · refine r_aload_n (pc := 10) dJ7_copyOfRange_39247_10 rfl (by first | rfl | exact isRefV_rf _) ?_
      refine r_iload_n (pc := 11) dJ7_copyOfRange_39247_11 rfl ?_
      refine r_iload_n (pc := 12) dJ7_copyOfRange_39247_12 rfl ?_
      refine r_callS3 (pc := 13) dJ7_copyOfRange_39247_13 qJ7_copyOfRangeByte_39247 kJ7_339 sJ7_copyOfRangeByte_39247 (Nat.le_of_ble_eq_true rfl) (jk_cpRB d hG hb hz hn) (fun v_13 h_13 q_13 => ?_)
      obtain ⟨rfl, q13⟩ := q_13
      refine r_areturn (pc := 16) _ dJ7_copyOfRange_39247_16 rfl (by first | exact Or.inl ⟨_, rfl⟩ | exact Or.inr ⟨_, rfl⟩) (by first | rfl | exact isRefV_rf _) ?_
      exact ⟨rfl, q13⟩
set_option maxHeartbeats 4000000 in
theorem jk_getValue (d : Nat) {a b : Nat} {bs t : List Int} (hB : isSB h a b bs t) : RUNM G l (d) mJ5_getValue_6d5f1 [.ref a] h (fun v h' => v = some (.ref b) ∧ h' = h) := by
  obtain ⟨⟨ml, k1⟩, k2, k3, k4⟩ := id hB
  refine RUNM.of (by decide +kernel) (Nat.le_of_ble_eq_true rfl) ?_
  refine r_aload_n (pc := 0) dJ5_getValue_6d5f1_0 rfl (by first | rfl | exact isRefV_rf _) ?_
  refine r_getf (pc := 1) dJ5_getValue_6d5f1_1 fJ5_15 k1 rfl ?_
  refine r_areturn (pc := 4) _ dJ5_getValue_6d5f1_4 rfl (Or.inr ⟨_, rfl⟩) rfl ?_
  exact ⟨rfl, rfl⟩
set_option maxHeartbeats 4000000 in
theorem jk_sbLen0 (d : Nat) {a b : Nat} {bs t : List Int} (hB : isSB h a b bs t) : RUNM G l (d) mJ5_length_8abf5 [.ref a] h (fun v h' => v = some (.int (J (t.length : Int))) ∧ h' = h) := by
  obtain ⟨⟨ml, k1⟩, k2, k3, k4⟩ := id hB
  refine RUNM.of (by decide +kernel) (Nat.le_of_ble_eq_true rfl) ?_
  refine r_aload_n (pc := 0) dJ5_length_8abf5_0 rfl (by first | rfl | exact isRefV_rf _) ?_
  refine r_getf (pc := 1) dJ5_length_8abf5_1 fJ5_79 k1 rfl ?_
  refine r_ireturn (pc := 4) .int dJ5_length_8abf5_4 rfl (by first | rfl | assumption) ?_
  exact ⟨rfl, rfl⟩
set_option maxHeartbeats 4000000 in
theorem jk_sbLen (d : Nat) {a b : Nat} {bs t : List Int} (hB : isSB h a b bs t) : RUNM G l (d + 1) mJ4_length_8abf5 [.ref a] h (fun v h' => v = some (.int (J (t.length : Int))) ∧ h' = h) := by
  obtain ⟨⟨ml, k1⟩, k2, k3, k4⟩ := id hB
  refine RUNM.of (by decide +kernel) (Nat.le_of_ble_eq_true rfl) ?_
  refine r_aload_n (pc := 0) dJ4_length_8abf5_0 rfl (by first | rfl | exact isRefV_rf _) ?_
  refine r_callSU (ci := 12) (r := (RJ4, TJ4, 4)) (pc := 1) dJ4_length_8abf5_1 qJ5_length_8abf5 (lw_use_in (u5 (List.mem_of_getElem? (i := 116) rfl)) rfl) zJ5_length_8abf5 jSuper nJ5_length_8abf5 (by decide +kernel) (As := []) rfl k1 rfl rfl (Nat.le_of_ble_eq_true rfl) (jk_sbLen0 _ hB) (fun v_1 h_1 q_1 => ?_)
  obtain ⟨rfl, e_h⟩ := q_1; replace e_h := e_h.symm; subst e_h
  refine r_ireturn (pc := 4) .int dJ4_length_8abf5_4 rfl (by first | rfl | assumption) ?_
  exact ⟨rfl, rfl⟩
set_option maxHeartbeats 4000000 in
theorem jk_strInit0 (d : Nat) (hG : G.2.map Prod.snd = mTy) {a b : Nat} {bs t : List Int} (hB : isSB h a b bs t) (hbs : bs.length ≤ 202) {s : Nat} (hs : hGet h s = some (.inl (11, [.null, .int 0, .int 0, .int 0]))) (hsl : h.1 ≤ s ∧ s < h.2.1 ∧ s ≠ a ∧ s ≠ b) : RUNM G l (d + 3) mJ0_init_db425 [.ref s, .ref a, .null] h (fun v h' => v = none ∧ hGet h' s = some (.inl (11, [.ref (h.2.1), .int 0, .int 0, .int 0])) ∧ hGet h' h.2.1 = some (byt (bJ t)) ∧ Old (fun q => q = s) h h' ∧ h'.2.1 = h.2.1 + 1 ∧ h.2.2.1 ≤ h'.2.2.1 ∧ h'.2.2.1 ≤ h.2.2.1 + 202) := by
  obtain ⟨⟨ml, k1⟩, k2, k3, k4⟩ := id hB
  refine RUNM.of (by decide +kernel) (Nat.le_of_ble_eq_true rfl) ?_
  refine r_aload_n (pc := 0) dJ0_init_db425_0 rfl (by first | rfl | exact isRefV_rf _) ?_
  refine r_objInit (pc := 1) dJ0_init_db425_1 kJ0_1 (Nat.le_of_ble_eq_true rfl) ?_
  refine r_aload_n (pc := 4) dJ0_init_db425_4 rfl (by first | rfl | exact isRefV_rf _) ?_
  refine r_callVx (C := "java/lang/StringBuilder") (pc := 5) dJ0_init_db425_5 qJ5_getValue_6d5f1 kJ0_552 ⟨nJ5_getValue_6d5f1, eJ5_getValue_6d5f1⟩ (As := []) rfl (fun hK hH => sb_recv k1 hK hH) rfl (Nat.le_of_ble_eq_true rfl) (jk_getValue _ hB) (fun v_5 h_5 q_5 => ?_)
  obtain ⟨rfl, e_h⟩ := q_5; replace e_h := e_h.symm; subst e_h
  refine r_astore_n (pc := 8) dJ0_init_db425_8 (Nat.le_of_ble_eq_true rfl) (by first | rfl | exact isRefV_rf _) ?_
  dsimp only [lsSt, List.set, mLs, mEnt]
  refine r_aload_n (pc := 9) dJ0_init_db425_9 rfl (by first | rfl | exact isRefV_rf _) ?_
  refine r_callO (C := "java/lang/StringBuilder") (X := yJ5_length_8abf5) (M2 := mJ4_length_8abf5) (b0 := cJ5_length_8abf5) (m0 := 1) (r0 := some .int) (pc := 10) dJ0_init_db425_10 qJ4_length_8abf5 (lw_use_in (u5 (List.mem_of_getElem? (i := 110) rfl)) rfl) zJ5_length_8abf5 ⟨nJ5_length_8abf5, qJ5_length_8abf5.1⟩ eJ5_length_8abf5 nJ4_length_8abf5 ⟨⟨by decide +kernel, by decide +kernel⟩, by decide +kernel⟩ (As := []) rfl (fun hK hH => sb_recv k1 hK hH) rfl (Nat.le_of_ble_eq_true rfl) (jk_sbLen _ hB) (fun v_10 h_10 q_10 => ?_)
  obtain ⟨rfl, e_h⟩ := q_10; replace e_h := e_h.symm; subst e_h
  refine r_istore (pc := 13) dJ0_init_db425_13 (Nat.le_of_ble_eq_true rfl) ?_
  dsimp only [lsSt, List.set, mLs, mEnt]
  refine r_aload_n (pc := 15) dJ0_init_db425_15 rfl (by first | rfl | exact isRefV_rf _) ?_
  refine r_callVx (C := "java/lang/StringBuilder") (pc := 16) dJ0_init_db425_16 qJ5_isLatin1_aae02 kJ0_1047 ⟨nJ5_isLatin1_aae02, eJ5_isLatin1_aae02⟩ (As := []) rfl (fun hK hH => sb_recv k1 hK hH) rfl (Nat.le_of_ble_eq_true rfl) (jk_sbLatin _ hB) (fun v_16 h_16 q_16 => ?_)
  obtain ⟨rfl, e_h⟩ := q_16; replace e_h := e_h.symm; subst e_h
  refine rj_if_eq (pc := 19) (tgt := 41) dJ0_init_db425_19 (by decide) (by first | exact b01_r | exact bz_r | omega | (constructor <;> omega) | apply_assumption | (apply atF_r; assumption) | fail "no range") (fun c_19 => ?_) (fun c_19 => ?_)
  · try simp only [b01_0, bz_0, Classical.not_not] at c_19
    exfalso; first | omega | contradiction | (simp at *; done)
  · try simp only [b01_0, bz_0, Classical.not_not] at c_19
    refine r_aload_n (pc := 22) dJ0_init_db425_22 rfl (by first | rfl | exact isRefV_rf _) ?_
    refine rj_iconst (pc := 23) dJ0_init_db425_23 ?_
    refine r_putF (pc := 24) dJ0_init_db425_24 fJ0_15 ⟨_, rfl, rfl⟩ rfl hs hsl.1 nar_b0 byte0 (Nat.le_of_ble_eq_true rfl) ?_
    dsimp only [List.set]
    have k2' : hGet (hPut h s (.inl (11, [.null, .int (J 0), .int 0, .int 0]))) b = some (byt (bJ bs)) := hGet_put_ne (by omega) k2
    refine r_aload_n (pc := 27) dJ0_init_db425_27 rfl (by first | rfl | exact isRefV_rf _) ?_
    refine r_aload_n (pc := 28) dJ0_init_db425_28 rfl (by first | rfl | exact isRefV_rf _) ?_
    refine rj_iconst (pc := 29) dJ0_init_db425_29 ?_
    refine r_iload (pc := 30) dJ0_init_db425_30 rfl ?_
    refine r_callS3 (pc := 32) dJ0_init_db425_32 qJ7_copyOfRange_39247 kJ0_54 sJ7_copyOfRange_39247 (Nat.le_of_ble_eq_true rfl) (jk_cpR _ hG k2' ⟨by show b < h.2.1; omega, by show h.1 ≤ b; omega⟩ ⟨k3.1, k3.2.1⟩) (fun v_32 h_32 q_32 => ?_)
    obtain ⟨rfl, g32, ⟨o32, n32, s32⟩⟩ := q_32
    have hs' : hGet h_32 s = some (.inl (11, [.null, .int (J 0), .int 0, .int 0])) := (o32.2.2 s hsl.2.1 (fun z => z)).trans hGet_put_self
    have e1 : h_32.1 = h.1 := o32.1
    refine r_putF (pc := 35) dJ0_init_db425_35 fJ0_9 ⟨_, rfl, rfl⟩ rfl hs' (by omega) rfl rfl (Nat.le_of_ble_eq_true rfl) ?_
    dsimp only [List.set]
    refine r_goto (pc := 38) (tgt := 97) dJ0_init_db425_38 (by decide) ?_
    refine r_return (pc := 97) dJ0_init_db425_97 rfl ?_
    have e2 : h_32.2.1 = h.2.1 + 1 := n32
    have e3 : h_32.2.2.1 = h.2.2.1 + t.length := s32
    have e4 := hsl.2.1
    refine ⟨rfl, by rw [J_0]; exact hGet_put_self, ?_, ⟨e1, by show h.2.1 ≤ h_32.2.1; omega, fun q hq hn => hGet_put_ne hn ((o32.2.2 q hq (fun z => z)).trans (hGet_put_ne hn rfl))⟩, e2, by show h.2.2.1 ≤ h_32.2.2.1; omega, by show h_32.2.2.1 ≤ _; have := k3.1; omega⟩
    refine hGet_put_ne (by omega) ?_
    rw [k3.2.2] at g32
    exact g32
set_option maxHeartbeats 4000000 in
theorem jk_strInit (d : Nat) (hG : G.2.map Prod.snd = mTy) {a b : Nat} {bs t : List Int} (hB : isSB h a b bs t) (hbs : bs.length ≤ 202) {s : Nat} (hs : hGet h s = some (.inl (11, [.null, .int 0, .int 0, .int 0]))) (hsl : h.1 ≤ s ∧ s < h.2.1 ∧ s ≠ a ∧ s ≠ b) : RUNM G l (d + 4) mJ0_init_81219 [.ref s, .ref a] h (fun v h' => v = none ∧ hGet h' s = some (.inl (11, [.ref (h.2.1), .int 0, .int 0, .int 0])) ∧ hGet h' h.2.1 = some (byt (bJ t)) ∧ Old (fun q => q = s) h h' ∧ h'.2.1 = h.2.1 + 1 ∧ h.2.2.1 ≤ h'.2.2.1 ∧ h'.2.2.1 ≤ h.2.2.1 + 202) := by
  refine RUNM.of (by decide +kernel) (Nat.le_of_ble_eq_true rfl) ?_
  refine r_aload_n (pc := 0) dJ0_init_81219_0 rfl (by first | rfl | exact isRefV_rf _) ?_
  refine r_aload_n (pc := 1) dJ0_init_81219_1 rfl (by first | rfl | exact isRefV_rf _) ?_
  refine r_null (pc := 2) dJ0_init_81219_2 ?_
  refine r_callI2 (pc := 3) dJ0_init_81219_3 qJ0_init_db425 rfl kJ0_489 rfl iJ0_init_db425 (Nat.le_of_ble_eq_true rfl) (jk_strInit0 d hG hB hbs hs hsl) (fun v_3 h_3 q_3 => ?_)
  obtain ⟨rfl, q3⟩ := q_3
  refine r_return (pc := 6) dJ0_init_81219_6 rfl ?_
  exact ⟨rfl, q3⟩
set_option maxHeartbeats 4000000 in
theorem jk_toString (d : Nat) (hG : G.2.map Prod.snd = mTy) {a b : Nat} {bs t : List Int} (hB : isSB h a b bs t) (hbs : bs.length ≤ 202) : RUNM G l (d + 5) mJ4_toString_0e30d [.ref a] h (fun v h' => v = some (.ref h.2.1) ∧ isOwn h' h.2.1 (h.2.1 + 1) t ∧ Old (fun _ => False) h h' ∧ h'.2.1 = h.2.1 + 2 ∧ h.2.2.1 ≤ h'.2.2.1 ∧ h'.2.2.1 ≤ h.2.2.1 + 210) := by
  obtain ⟨⟨ml, k1⟩, k2, k3, k4⟩ := id hB
  refine RUNM.of (by decide +kernel) (Nat.le_of_ble_eq_true rfl) ?_
  refine r_newC (pc := 0) dJ4_toString_0e30d_0 cJ4_18 ?_
  have hB' : isSB (hNew h 4 (.inl (11, [.null, .int 0, .int 0, .int 0]))) a b bs t := ⟨⟨ml, hGet_new_ne (by omega) k1⟩, hGet_new_ne (by omega) k2, k3, ⟨k4.1, k4.2.1, by show b < h.2.1 + 1; omega⟩⟩
  refine r_dup (pc := 3) dJ4_toString_0e30d_3 (by first | rfl | (cases ‹Option Nat› <;> rfl)) ?_
  refine r_aload_n (pc := 4) dJ4_toString_0e30d_4 rfl (by first | rfl | exact isRefV_rf _) ?_
  refine r_callI1 (pc := 5) dJ4_toString_0e30d_5 qJ0_init_81219 rfl kJ4_137 rfl iJ0_init_81219 (Nat.le_of_ble_eq_true rfl) (jk_strInit d hG hB' hbs hGet_new_self ⟨by show h.1 ≤ h.2.1; omega, Nat.lt_succ_self _, by omega, by omega⟩) (fun v_5 h_5 q_5 => ?_)
  obtain ⟨rfl, g1, g2, o5, n5, s5⟩ := q_5
  refine r_areturn (pc := 8) _ dJ4_toString_0e30d_8 rfl (by first | exact Or.inl ⟨_, rfl⟩ | exact Or.inr ⟨_, rfl⟩) (by first | rfl | exact isRefV_rf _) ?_
  have n5' : h_5.2.1 = h.2.1 + 1 + 1 := n5
  have s5' : h.2.2.1 + 4 ≤ h_5.2.2.1 ∧ h_5.2.2.1 ≤ h.2.2.1 + 4 + 202 := s5
  exact ⟨rfl, ⟨⟨0, 0, g1⟩, g2, by omega, by omega⟩, ⟨o5.1, by omega, fun q hq _ => (o5.2.2 q (by show q < h.2.1 + 1; omega) (by omega)).trans (hGet_new_ne (by omega) rfl)⟩, n5', by omega, by omega⟩
set_option maxHeartbeats 4000000 in
theorem jk_asbInit (d : Nat) (hG : G.2.map Prod.snd = mTy) {a n : Nat} (hn : n ≤ 100) (ha : hGet h a = some (.inl (12, [.null, .int 0, .int 0, .int 0]))) (hal : h.1 ≤ a ∧ a < h.2.1) : RUNM G l (d + 1) mJ5_init_d00df [.ref a, .int (J (n : Int))] h (fun v h' => v = none ∧ isSB h' a h.2.1 (List.replicate n 0) [] ∧ Old (fun q => q = a) h h' ∧ h'.2.1 = h.2.1 + 1 ∧ h'.2.2.1 = h.2.2.1 + n) := by
  refine RUNM.of (by decide +kernel) (Nat.le_of_ble_eq_true rfl) ?_
  refine r_aload_n (pc := 0) dJ5_init_d00df_0 rfl (by first | rfl | exact isRefV_rf _) ?_
  refine r_objInit (pc := 1) dJ5_init_d00df_1 kJ5_3 (Nat.le_of_ble_eq_true rfl) ?_
  refine rj_getC (pc := 4) dJ5_init_d00df_4 gJ5_18 ?_
  refine rj_if_eq (pc := 7) (tgt := 25) dJ5_init_d00df_7 (by decide) (by first | exact b01_r | exact bz_r | omega | (constructor <;> omega) | apply_assumption | (apply atF_r; assumption) | fail "no range") (fun c_7 => ?_) (fun c_7 => ?_)
  · try simp only [b01_0, bz_0, Classical.not_not] at c_7
    exfalso; first | omega | contradiction | (simp at *; done)
  · try simp only [b01_0, bz_0, Classical.not_not] at c_7
    refine r_aload_n (pc := 10) dJ5_init_d00df_10 rfl (by first | rfl | exact isRefV_rf _) ?_
    refine r_iload_n (pc := 11) dJ5_init_d00df_11 rfl ?_
    refine rj_newaB (pc := 12) dJ5_init_d00df_12 hG (by omega) ?_
    refine r_putf (pc := 14) dJ5_init_d00df_14 fJ5_15 (hGet_new_ne (by omega) ha) hal.1 rfl rfl (Nat.le_of_ble_eq_true rfl) ?_
    dsimp only [List.set]
    refine r_aload_n (pc := 17) dJ5_init_d00df_17 rfl (by first | rfl | exact isRefV_rf _) ?_
    refine rj_iconst (pc := 18) dJ5_init_d00df_18 ?_
    refine r_putf (pc := 19) dJ5_init_d00df_19 fJ5_22 hGet_put_self hal.1 nar_b0 byte0 (Nat.le_of_ble_eq_true rfl) ?_
    dsimp only [List.set]
    refine r_goto (pc := 22) (tgt := 38) dJ5_init_d00df_22 (by decide) ?_
    refine r_return (pc := 38) dJ5_init_d00df_38 rfl ?_
    have e : ((.inl (12, [.ref h.2.1, .int (J 0), .int 0, .int 0])) : mO) = sbO h.2.1 0 ((([] : List Int).length : Nat) : Int) := by
      rw [sbO, show ((([] : List Int).length : Nat) : Int) = 0 from rfl, ← J_0]
    exact ⟨rfl, ⟨⟨0, hGet_put_self.trans (congrArg some e)⟩, hGet_put_ne (by omega) (hGet_put_ne (by omega) hGet_new_self), ⟨Nat.zero_le _, by rw [List.length_replicate]; omega, rfl⟩, ⟨by omega, by show h.1 ≤ a; omega, Nat.lt_succ_self _⟩⟩, ⟨rfl, Nat.le_succ _, fun q hq hn => hGet_put_ne hn (hGet_put_ne hn (hGet_new_ne (by omega) rfl))⟩, rfl, rfl⟩
set_option maxHeartbeats 4000000 in
theorem jk_sbInit (d : Nat) (hG : G.2.map Prod.snd = mTy) {a : Nat} (ha : hGet h a = some (.inl (12, [.null, .int 0, .int 0, .int 0]))) (hal : h.1 ≤ a ∧ a < h.2.1) : RUNM G l (d + 2) mJ4_init_da8c8 [.ref a] h (fun v h' => v = none ∧ isSB h' a h.2.1 (List.replicate 16 0) [] ∧ Old (fun q => q = a) h h' ∧ h'.2.1 = h.2.1 + 1 ∧ h'.2.2.1 = h.2.2.1 + 16) := by
  refine RUNM.of (by decide +kernel) (Nat.le_of_ble_eq_true rfl) ?_
  refine r_aload_n (pc := 0) dJ4_init_da8c8_0 rfl (by first | rfl | exact isRefV_rf _) ?_
  refine rj_bipush (pc := 1) dJ4_init_da8c8_1 (by decide +kernel) ?_
  refine r_callI1 (pc := 3) dJ4_init_da8c8_3 qJ5_init_d00df rfl kJ4_1 rfl iJ5_init_d00df (Nat.le_of_ble_eq_true rfl) (jk_asbInit (n := 16) d hG (by decide) ha hal) (fun v_3 h_3 q_3 => ?_)
  obtain ⟨rfl, q3⟩ := q_3
  refine r_return (pc := 6) dJ4_init_da8c8_6 rfl ?_
  exact ⟨rfl, q3⟩
end K4
