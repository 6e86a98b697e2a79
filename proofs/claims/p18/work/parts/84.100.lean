section mg_9a
set_option maxHeartbeats 4000000 in
set_option maxRecDepth 100000 in
theorem pf_sw {G : mG} {l : Launch} (d : Nat) {h : mH} {r s s0 : Nat} {kd num vl i : Int} {y : Int64} {inn nx : Option Nat} (hs : hGet h s = some (stO kd num vl y inn nx)) (hkr : InR kd) {Q : Option Value → mH → Prop} (T : ∀ tgt : Nat, ((kd = 43 ∧ tgt = 124) ∨ (kd = 33 ∧ tgt = 159) ∨ (kd = 97 ∧ tgt = 164) ∨ (kd = 120 ∧ tgt = 171) ∨ (kd = 109 ∧ tgt = 180) ∨ (kd = 107 ∧ tgt = 193) ∨ (kd = 40 ∧ tgt = 202) ∨ (kd = 41 ∧ tgt = 207) ∨ ((¬ kd = 43 ∧ ¬ kd = 33 ∧ ¬ kd = 97 ∧ ¬ kd = 120 ∧ ¬ kd = 109 ∧ ¬ kd = 107 ∧ ¬ kd = 40 ∧ ¬ kd = 41) ∧ tgt = 212)) → RUN G l d mX3_perform tgt [some (.ref r), some (.ref s0), some (.int (J i)), some (.ref s)] [] h Q) : RUN G l d mX3_perform 41 [some (.ref r), some (.ref s0), some (.int (J i)), some (.ref s)] [] h Q := by
  have s_u := hs
  unfold stO at s_u
  refine r_aload_n (pc := 41) dX3_perform_41 rfl (by first | rfl | exact isRefV_rf _) ?_
  refine r_ifnonnull (pc := 42) (tgt := 47) dX3_perform_42 (by decide) (by first | rfl | exact isRefV_rf _) (fun a_42 c_42 => ?_) (fun c_42 => by cases c_42)
  refine r_aload_n (pc := 47) dX3_perform_47 rfl (by first | rfl | exact isRefV_rf _) ?_
  refine r_getf (pc := 48) dX3_perform_48 fX3_169 (by first | assumption | exact isI.gx (by assumption) | exact isI.gc (by assumption) | exact isW.gx (by assumption) | exact isW.gF (by assumption) | exact isW.gT (by assumption) (by omega) | exact isW.gS (by assumption) (by omega) | exact isW.gK (by assumption) (by omega) | exact isW.g1 (by assumption) | exact isW.g2 (by assumption) | exact isW.g3 (by assumption) | exact isI.gx (isW.i0 (by assumption)) | exact isI.gc (isW.i0 (by assumption)) | exact isI.gx (isW.i1 (by assumption)) | exact isI.gc (isW.i1 (by assumption)) | exact isI.gx (isW.i2 (by assumption)) | exact isI.gc (isW.i2 (by assumption)) | exact isI.gx (isW.i3 (by assumption)) | exact isI.gc (isW.i3 (by assumption)) | exact isI.gx (isW.i4 (by assumption)) | exact isI.gc (isW.i4 (by assumption)) | exact isI.gx (isW.i5 (by assumption)) | exact isI.gc (isW.i5 (by assumption)) | exact isR.gx (by assumption) | exact isRd.gx (by assumption) | exact isSp.gx (by assumption) | exact isI.gx (isR.i (by assumption)) | exact isI.gx (isRd.i (by assumption)) | exact isI.gc (isRd.i (by assumption)) | exact isI.gx (isSp.i (by assumption)) | exact isW.gx (isR.w (by assumption)) | exact isW.gF (isR.w (by assumption)) | fail "no such object") (by rfl) ?_
  refine rj_lsw (pc := 51) dX3_perform_51 rfl (by first | exact b01_r | exact bz_r | omega | (constructor <;> omega) | apply_assumption | (apply atF_r; assumption) | fail "no range") (lsw_pos _ (by decide +kernel) (by decide +kernel)) (fun off_51 tgt_51 ho_51 ht_51 => ?_)
  simp only [Op.lookupswitch.offset_cons, Op.lookupswitch.offset_nil] at ho_51
  by_cases e_51_33 : (33 : Int) = kd
  · rw [if_pos e_51_33] at ho_51
    obtain rfl : tgt_51 = 159 := by omega
    exact T _ (by omega)
  rw [if_neg e_51_33] at ho_51
  by_cases e_51_40 : (40 : Int) = kd
  · rw [if_pos e_51_40] at ho_51
    obtain rfl : tgt_51 = 202 := by omega
    exact T _ (by omega)
  rw [if_neg e_51_40] at ho_51
  by_cases e_51_41 : (41 : Int) = kd
  · rw [if_pos e_51_41] at ho_51
    obtain rfl : tgt_51 = 207 := by omega
    exact T _ (by omega)
  rw [if_neg e_51_41] at ho_51
  by_cases e_51_43 : (43 : Int) = kd
  · rw [if_pos e_51_43] at ho_51
    obtain rfl : tgt_51 = 124 := by omega
    exact T _ (by omega)
  rw [if_neg e_51_43] at ho_51
  by_cases e_51_97 : (97 : Int) = kd
  · rw [if_pos e_51_97] at ho_51
    obtain rfl : tgt_51 = 164 := by omega
    exact T _ (by omega)
  rw [if_neg e_51_97] at ho_51
  by_cases e_51_107 : (107 : Int) = kd
  · rw [if_pos e_51_107] at ho_51
    obtain rfl : tgt_51 = 193 := by omega
    exact T _ (by omega)
  rw [if_neg e_51_107] at ho_51
  by_cases e_51_109 : (109 : Int) = kd
  · rw [if_pos e_51_109] at ho_51
    obtain rfl : tgt_51 = 180 := by omega
    exact T _ (by omega)
  rw [if_neg e_51_109] at ho_51
  by_cases e_51_120 : (120 : Int) = kd
  · rw [if_pos e_51_120] at ho_51
    obtain rfl : tgt_51 = 171 := by omega
    exact T _ (by omega)
  rw [if_neg e_51_120] at ho_51
  obtain rfl : tgt_51 = 212 := by omega
  exact T _ (by omega)
end mg_9a
