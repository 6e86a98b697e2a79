section mg_9m
set_option maxHeartbeats 4000000 in
set_option maxRecDepth 100000 in
theorem rd_mayBegin {G : mG} {l : Launch} (d : Nat) {h : mH} {a : Nat} {p e o z : Int} {f : Nat → Int} (hD : isRd h a p e o z f) (ho : InR o) {k br gd : Int} (hk : InR k) (hbr : InR br) (hgd : InR gd) : RUNM G l (d) mX2_mayBegin [.ref a, .int (J k), .int (J br), .int (J gd)] h (fun v h' => (mbP k br gd o → v = some (.int (J 1))) ∧ (¬ mbP k br gd o → v = some (.int (J 0))) ∧ h' = h) := by
  refine RUNM.of (by decide +kernel) (Nat.le_of_ble_eq_true rfl) ?_
  refine r_iload_n (pc := 0) dX2_mayBegin_0 rfl ?_
  refine rj_lsw (pc := 1) dX2_mayBegin_1 rfl (by first | exact b01_r | exact bz_r | omega | (constructor <;> omega) | apply_assumption | (apply atF_r; assumption) | fail "no range") (lsw_pos _ (by decide +kernel) (by decide +kernel)) (fun off_1 tgt_1 ho_1 ht_1 => ?_)
  simp only [Op.lookupswitch.offset_cons, Op.lookupswitch.offset_nil] at ho_1
  by_cases e_1_33 : (33 : Int) = k
  · rw [if_pos e_1_33] at ho_1
    obtain rfl : tgt_1 = 92 := by omega
    refine rj_iconst (pc := 92) dX2_mayBegin_92 ?_
    refine r_ireturn (pc := 93) .boolean dX2_mayBegin_93 rfl (by first | exact nar_J0 | exact nar_J1 | exact nar_b01 | exact nar_bz) ?_
    first | exact ⟨fun _ => rfl, fun q => absurd (by unfold mbP; omega) q, rfl⟩ | exact ⟨fun q => absurd q (by unfold mbP; omega), fun _ => rfl, rfl⟩
  rw [if_neg e_1_33] at ho_1
  by_cases e_1_40 : (40 : Int) = k
  · rw [if_pos e_1_40] at ho_1
    obtain rfl : tgt_1 = 104 := by omega
    refine r_iload_n (pc := 104) dX2_mayBegin_104 rfl ?_
    refine rj_if_ne (pc := 105) (tgt := 116) dX2_mayBegin_105 (by decide) (by first | exact b01_r | exact bz_r | omega | (constructor <;> omega) | apply_assumption | (apply atF_r; assumption) | fail "no range") (fun c_105 => ?_) (fun c_105 => ?_)
    · try simp only [b01_0, bz_0, Classical.not_not] at c_105
      refine rj_iconst (pc := 116) dX2_mayBegin_116 ?_
      refine r_ireturn (pc := 117) .boolean dX2_mayBegin_117 rfl (by first | exact nar_J0 | exact nar_J1 | exact nar_b01 | exact nar_bz) ?_
      first | exact ⟨fun _ => rfl, fun q => absurd (by unfold mbP; omega) q, rfl⟩ | exact ⟨fun q => absurd q (by unfold mbP; omega), fun _ => rfl, rfl⟩
    · try simp only [b01_0, bz_0, Classical.not_not] at c_105
      refine r_iload_n (pc := 108) dX2_mayBegin_108 rfl ?_
      refine rj_if_ne (pc := 109) (tgt := 116) dX2_mayBegin_109 (by decide) (by first | exact b01_r | exact bz_r | omega | (constructor <;> omega) | apply_assumption | (apply atF_r; assumption) | fail "no range") (fun c_109 => ?_) (fun c_109 => ?_)
      · try simp only [b01_0, bz_0, Classical.not_not] at c_109
        refine rj_iconst (pc := 116) dX2_mayBegin_116 ?_
        refine r_ireturn (pc := 117) .boolean dX2_mayBegin_117 rfl (by first | exact nar_J0 | exact nar_J1 | exact nar_b01 | exact nar_bz) ?_
        first | exact ⟨fun _ => rfl, fun q => absurd (by unfold mbP; omega) q, rfl⟩ | exact ⟨fun q => absurd q (by unfold mbP; omega), fun _ => rfl, rfl⟩
      · try simp only [b01_0, bz_0, Classical.not_not] at c_109
        refine rj_iconst (pc := 112) dX2_mayBegin_112 ?_
        refine r_goto (pc := 113) (tgt := 117) dX2_mayBegin_113 (by decide) ?_
        refine r_ireturn (pc := 117) .boolean dX2_mayBegin_117 rfl (by first | exact nar_J0 | exact nar_J1 | exact nar_b01 | exact nar_bz) ?_
        first | exact ⟨fun _ => rfl, fun q => absurd (by unfold mbP; omega) q, rfl⟩ | exact ⟨fun q => absurd q (by unfold mbP; omega), fun _ => rfl, rfl⟩
  rw [if_neg e_1_40] at ho_1
  by_cases e_1_41 : (41 : Int) = k
  · rw [if_pos e_1_41] at ho_1
    obtain rfl : tgt_1 = 118 := by omega
    refine r_iload_n (pc := 118) dX2_mayBegin_118 rfl ?_
    refine rj_if_ne (pc := 119) (tgt := 137) dX2_mayBegin_119 (by decide) (by first | exact b01_r | exact bz_r | omega | (constructor <;> omega) | apply_assumption | (apply atF_r; assumption) | fail "no range") (fun c_119 => ?_) (fun c_119 => ?_)
    · try simp only [b01_0, bz_0, Classical.not_not] at c_119
      refine rj_iconst (pc := 137) dX2_mayBegin_137 ?_
      refine r_ireturn (pc := 138) .boolean dX2_mayBegin_138 rfl (by first | exact nar_J0 | exact nar_J1 | exact nar_b01 | exact nar_bz) ?_
      first | exact ⟨fun _ => rfl, fun q => absurd (by unfold mbP; omega) q, rfl⟩ | exact ⟨fun q => absurd q (by unfold mbP; omega), fun _ => rfl, rfl⟩
    · try simp only [b01_0, bz_0, Classical.not_not] at c_119
      refine r_iload_n (pc := 122) dX2_mayBegin_122 rfl ?_
      refine rj_if_ne (pc := 123) (tgt := 137) dX2_mayBegin_123 (by decide) (by first | exact b01_r | exact bz_r | omega | (constructor <;> omega) | apply_assumption | (apply atF_r; assumption) | fail "no range") (fun c_123 => ?_) (fun c_123 => ?_)
      · try simp only [b01_0, bz_0, Classical.not_not] at c_123
        refine rj_iconst (pc := 137) dX2_mayBegin_137 ?_
        refine r_ireturn (pc := 138) .boolean dX2_mayBegin_138 rfl (by first | exact nar_J0 | exact nar_J1 | exact nar_b01 | exact nar_bz) ?_
        first | exact ⟨fun _ => rfl, fun q => absurd (by unfold mbP; omega) q, rfl⟩ | exact ⟨fun q => absurd q (by unfold mbP; omega), fun _ => rfl, rfl⟩
      · try simp only [b01_0, bz_0, Classical.not_not] at c_123
        refine r_aload_n (pc := 126) dX2_mayBegin_126 rfl (by first | rfl | exact isRefV_rf _) ?_
        refine r_getf (pc := 127) dX2_mayBegin_127 fX2_59 (by first | assumption | exact isI.gx (by assumption) | exact isI.gc (by assumption) | exact isW.gx (by assumption) | exact isW.gF (by assumption) | exact isW.gT (by assumption) (by omega) | exact isW.gS (by assumption) (by omega) | exact isW.gK (by assumption) (by omega) | exact isW.g1 (by assumption) | exact isW.g2 (by assumption) | exact isW.g3 (by assumption) | exact isI.gx (isW.i0 (by assumption)) | exact isI.gc (isW.i0 (by assumption)) | exact isI.gx (isW.i1 (by assumption)) | exact isI.gc (isW.i1 (by assumption)) | exact isI.gx (isW.i2 (by assumption)) | exact isI.gc (isW.i2 (by assumption)) | exact isI.gx (isW.i3 (by assumption)) | exact isI.gc (isW.i3 (by assumption)) | exact isI.gx (isW.i4 (by assumption)) | exact isI.gc (isW.i4 (by assumption)) | exact isI.gx (isW.i5 (by assumption)) | exact isI.gc (isW.i5 (by assumption)) | exact isR.gx (by assumption) | exact isRd.gx (by assumption) | exact isSp.gx (by assumption) | exact isI.gx (isR.i (by assumption)) | exact isI.gx (isRd.i (by assumption)) | exact isI.gc (isRd.i (by assumption)) | exact isI.gx (isSp.i (by assumption)) | exact isW.gx (isR.w (by assumption)) | exact isW.gF (isR.w (by assumption)) | fail "no such object") (by rfl) ?_
        refine rj_if_le (pc := 130) (tgt := 137) dX2_mayBegin_130 (by decide) (by first | exact b01_r | exact bz_r | omega | (constructor <;> omega) | apply_assumption | (apply atF_r; assumption) | fail "no range") (fun c_130 => ?_) (fun c_130 => ?_)
        · refine rj_iconst (pc := 137) dX2_mayBegin_137 ?_
          refine r_ireturn (pc := 138) .boolean dX2_mayBegin_138 rfl (by first | exact nar_J0 | exact nar_J1 | exact nar_b01 | exact nar_bz) ?_
          first | exact ⟨fun _ => rfl, fun q => absurd (by unfold mbP; omega) q, rfl⟩ | exact ⟨fun q => absurd q (by unfold mbP; omega), fun _ => rfl, rfl⟩
        · refine rj_iconst (pc := 133) dX2_mayBegin_133 ?_
          refine r_goto (pc := 134) (tgt := 138) dX2_mayBegin_134 (by decide) ?_
          refine r_ireturn (pc := 138) .boolean dX2_mayBegin_138 rfl (by first | exact nar_J0 | exact nar_J1 | exact nar_b01 | exact nar_bz) ?_
          first | exact ⟨fun _ => rfl, fun q => absurd (by unfold mbP; omega) q, rfl⟩ | exact ⟨fun q => absurd q (by unfold mbP; omega), fun _ => rfl, rfl⟩
  rw [if_neg e_1_41] at ho_1
  by_cases e_1_43 : (43 : Int) = k
  · rw [if_pos e_1_43] at ho_1
    obtain rfl : tgt_1 = 92 := by omega
    refine rj_iconst (pc := 92) dX2_mayBegin_92 ?_
    refine r_ireturn (pc := 93) .boolean dX2_mayBegin_93 rfl (by first | exact nar_J0 | exact nar_J1 | exact nar_b01 | exact nar_bz) ?_
    first | exact ⟨fun _ => rfl, fun q => absurd (by unfold mbP; omega) q, rfl⟩ | exact ⟨fun q => absurd q (by unfold mbP; omega), fun _ => rfl, rfl⟩
  rw [if_neg e_1_43] at ho_1
  by_cases e_1_46 : (46 : Int) = k
  · rw [if_pos e_1_46] at ho_1
    obtain rfl : tgt_1 = 92 := by omega
    refine rj_iconst (pc := 92) dX2_mayBegin_92 ?_
    refine r_ireturn (pc := 93) .boolean dX2_mayBegin_93 rfl (by first | exact nar_J0 | exact nar_J1 | exact nar_b01 | exact nar_bz) ?_
    first | exact ⟨fun _ => rfl, fun q => absurd (by unfold mbP; omega) q, rfl⟩ | exact ⟨fun q => absurd q (by unfold mbP; omega), fun _ => rfl, rfl⟩
  rw [if_neg e_1_46] at ho_1
  by_cases e_1_63 : (63 : Int) = k
  · rw [if_pos e_1_63] at ho_1
    obtain rfl : tgt_1 = 94 := by omega
    refine r_iload_n (pc := 94) dX2_mayBegin_94 rfl ?_
    refine rj_if_ne (pc := 95) (tgt := 102) dX2_mayBegin_95 (by decide) (by first | exact b01_r | exact bz_r | omega | (constructor <;> omega) | apply_assumption | (apply atF_r; assumption) | fail "no range") (fun c_95 => ?_) (fun c_95 => ?_)
    · try simp only [b01_0, bz_0, Classical.not_not] at c_95
      refine rj_iconst (pc := 102) dX2_mayBegin_102 ?_
      refine r_ireturn (pc := 103) .boolean dX2_mayBegin_103 rfl (by first | exact nar_J0 | exact nar_J1 | exact nar_b01 | exact nar_bz) ?_
      first | exact ⟨fun _ => rfl, fun q => absurd (by unfold mbP; omega) q, rfl⟩ | exact ⟨fun q => absurd q (by unfold mbP; omega), fun _ => rfl, rfl⟩
    · try simp only [b01_0, bz_0, Classical.not_not] at c_95
      refine rj_iconst (pc := 98) dX2_mayBegin_98 ?_
      refine r_goto (pc := 99) (tgt := 103) dX2_mayBegin_99 (by decide) ?_
      refine r_ireturn (pc := 103) .boolean dX2_mayBegin_103 rfl (by first | exact nar_J0 | exact nar_J1 | exact nar_b01 | exact nar_bz) ?_
      first | exact ⟨fun _ => rfl, fun q => absurd (by unfold mbP; omega) q, rfl⟩ | exact ⟨fun q => absurd q (by unfold mbP; omega), fun _ => rfl, rfl⟩
  rw [if_neg e_1_63] at ho_1
  by_cases e_1_97 : (97 : Int) = k
  · rw [if_pos e_1_97] at ho_1
    obtain rfl : tgt_1 = 92 := by omega
    refine rj_iconst (pc := 92) dX2_mayBegin_92 ?_
    refine r_ireturn (pc := 93) .boolean dX2_mayBegin_93 rfl (by first | exact nar_J0 | exact nar_J1 | exact nar_b01 | exact nar_bz) ?_
    first | exact ⟨fun _ => rfl, fun q => absurd (by unfold mbP; omega) q, rfl⟩ | exact ⟨fun q => absurd q (by unfold mbP; omega), fun _ => rfl, rfl⟩
  rw [if_neg e_1_97] at ho_1
  by_cases e_1_107 : (107 : Int) = k
  · rw [if_pos e_1_107] at ho_1
    obtain rfl : tgt_1 = 92 := by omega
    refine rj_iconst (pc := 92) dX2_mayBegin_92 ?_
    refine r_ireturn (pc := 93) .boolean dX2_mayBegin_93 rfl (by first | exact nar_J0 | exact nar_J1 | exact nar_b01 | exact nar_bz) ?_
    first | exact ⟨fun _ => rfl, fun q => absurd (by unfold mbP; omega) q, rfl⟩ | exact ⟨fun q => absurd q (by unfold mbP; omega), fun _ => rfl, rfl⟩
  rw [if_neg e_1_107] at ho_1
  by_cases e_1_109 : (109 : Int) = k
  · rw [if_pos e_1_109] at ho_1
    obtain rfl : tgt_1 = 92 := by omega
    refine rj_iconst (pc := 92) dX2_mayBegin_92 ?_
    refine r_ireturn (pc := 93) .boolean dX2_mayBegin_93 rfl (by first | exact nar_J0 | exact nar_J1 | exact nar_b01 | exact nar_bz) ?_
    first | exact ⟨fun _ => rfl, fun q => absurd (by unfold mbP; omega) q, rfl⟩ | exact ⟨fun q => absurd q (by unfold mbP; omega), fun _ => rfl, rfl⟩
  rw [if_neg e_1_109] at ho_1
  by_cases e_1_120 : (120 : Int) = k
  · rw [if_pos e_1_120] at ho_1
    obtain rfl : tgt_1 = 92 := by omega
    refine rj_iconst (pc := 92) dX2_mayBegin_92 ?_
    refine r_ireturn (pc := 93) .boolean dX2_mayBegin_93 rfl (by first | exact nar_J0 | exact nar_J1 | exact nar_b01 | exact nar_bz) ?_
    first | exact ⟨fun _ => rfl, fun q => absurd (by unfold mbP; omega) q, rfl⟩ | exact ⟨fun q => absurd q (by unfold mbP; omega), fun _ => rfl, rfl⟩
  rw [if_neg e_1_120] at ho_1
  obtain rfl : tgt_1 = 139 := by omega
  refine rj_iconst (pc := 139) dX2_mayBegin_139 ?_
  refine r_ireturn (pc := 140) .boolean dX2_mayBegin_140 rfl (by first | exact nar_J0 | exact nar_J1 | exact nar_b01 | exact nar_bz) ?_
  first | exact ⟨fun _ => rfl, fun q => absurd (by unfold mbP; omega) q, rfl⟩ | exact ⟨fun q => absurd q (by unfold mbP; omega), fun _ => rfl, rfl⟩
end mg_9m
