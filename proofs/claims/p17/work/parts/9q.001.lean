set_option maxHeartbeats 4000000 in
set_option maxRecDepth 100000 in
theorem rs_sw {G : mG} {l : Launch} (d : Nat) {h : mH} {a : Nat} {p e o z : Int} {f : Nat → Int} (hD : isRd h a p e o z f) (hp : InR p) (he : InR e) (ho : InR o) (hz : InR z) (hf : ∀ q, InR (f q)) (ha : a + 3 ≤ h.2.1) {br gd kd : Int} (hbr : InR br) (hgd : InR gd) (hkd : hereC p z f = kd) (hm : mbP kd br gd o) {Q : Option Value → mH → Prop} (T : ∀ (tgt : Nat) (h1 : mH), ((kd = 43 ∧ tgt = 128) ∨ (kd = 33 ∧ tgt = 157) ∨ (kd = 97 ∧ tgt = 169) ∨ (kd = 120 ∧ tgt = 191) ∨ (kd = 109 ∧ tgt = 203) ∨ (kd = 107 ∧ tgt = 231) ∨ (kd = 63 ∧ tgt = 245) ∨ (kd = 40 ∧ tgt = 291) ∨ (kd = 41 ∧ tgt = 304) ∨ ((¬ kd = 43 ∧ ¬ kd = 33 ∧ ¬ kd = 97 ∧ ¬ kd = 120 ∧ ¬ kd = 109 ∧ ¬ kd = 107 ∧ ¬ kd = 63 ∧ ¬ kd = 40 ∧ ¬ kd = 41) ∧ tgt = 317)) → isRd h1 a (p + 1) e o z f → hGet h1 h.2.1 = some (stO kd 0 0 0 none none) → h1.1 = h.1 → h1.2.1 = h.2.1 + 1 → h1.2.2.1 = h.2.2.1 + 6 → (∀ b, b < h.2.1 → ¬ dBlk a b → hGet h1 b = hGet h b) → RUN G l (d + 2) mX2_readStep tgt [some (.ref a), some (.int (J br)), some (.int (J gd)), some (.int (J kd)), some (.ref h.2.1)] [] h1 Q) : RUNM G l (d + 2) mX2_readStep [.ref a, .int (J br), .int (J gd)] h Q := by
  refine RUNM.of (by decide +kernel) (Nat.le_of_ble_eq_true rfl) ?_
  have hkr : InR kd := by rw [← hkd]; exact hereC_r hf
  refine r_aload_n (pc := 0) dX2_readStep_0 rfl (by first | rfl | exact isRefV_rf _) ?_
  refine r_callV0 (pc := 1) dX2_readStep_1 qX2_here kX2_34 vX2_here (by first | assumption | exact isI.gx (by assumption) | exact isI.gc (by assumption) | exact isW.gx (by assumption) | exact isW.gF (by assumption) | exact isW.gT (by assumption) (by omega) | exact isW.gS (by assumption) (by omega) | exact isW.gK (by assumption) (by omega) | exact isW.g1 (by assumption) | exact isW.g2 (by assumption) | exact isW.g3 (by assumption) | exact isI.gx (isW.i0 (by assumption)) | exact isI.gc (isW.i0 (by assumption)) | exact isI.gx (isW.i1 (by assumption)) | exact isI.gc (isW.i1 (by assumption)) | exact isI.gx (isW.i2 (by assumption)) | exact isI.gc (isW.i2 (by assumption)) | exact isI.gx (isW.i3 (by assumption)) | exact isI.gc (isW.i3 (by assumption)) | exact isI.gx (isW.i4 (by assumption)) | exact isI.gc (isW.i4 (by assumption)) | exact isI.gx (isW.i5 (by assumption)) | exact isI.gc (isW.i5 (by assumption)) | exact isR.gx (by assumption) | exact isRd.gx (by assumption) | exact isSp.gx (by assumption) | exact isI.gx (isR.i (by assumption)) | exact isI.gx (isRd.i (by assumption)) | exact isI.gc (isRd.i (by assumption)) | exact isI.gx (isSp.i (by assumption)) | exact isW.gx (isR.w (by assumption)) | exact isW.gF (isR.w (by assumption)) | fail "no such object") rfl rfl (Nat.le_of_ble_eq_true rfl) (cd_here _ hD hp he ho hz hf) (fun v_1 h_1 q_1 => ?_)
  obtain ⟨rfl, e_1⟩ := q_1
  have e_1 := e_1.symm
  subst e_1
  rw [hkd]
  refine r_istore_n (pc := 4) dX2_readStep_4 (Nat.le_of_ble_eq_true rfl) ?_
  dsimp only [lsSt, List.set, mLs, mEnt]
  refine r_aload_n (pc := 5) dX2_readStep_5 rfl (by first | rfl | exact isRefV_rf _) ?_
  refine r_iload_n (pc := 6) dX2_readStep_6 rfl ?_
  refine r_iload_n (pc := 7) dX2_readStep_7 rfl ?_
  refine r_iload_n (pc := 8) dX2_readStep_8 rfl ?_
  refine r_callV3 (pc := 9) dX2_readStep_9 qX2_mayBegin kX2_76 vX2_mayBegin (by first | assumption | exact isI.gx (by assumption) | exact isI.gc (by assumption) | exact isW.gx (by assumption) | exact isW.gF (by assumption) | exact isW.gT (by assumption) (by omega) | exact isW.gS (by assumption) (by omega) | exact isW.gK (by assumption) (by omega) | exact isW.g1 (by assumption) | exact isW.g2 (by assumption) | exact isW.g3 (by assumption) | exact isI.gx (isW.i0 (by assumption)) | exact isI.gc (isW.i0 (by assumption)) | exact isI.gx (isW.i1 (by assumption)) | exact isI.gc (isW.i1 (by assumption)) | exact isI.gx (isW.i2 (by assumption)) | exact isI.gc (isW.i2 (by assumption)) | exact isI.gx (isW.i3 (by assumption)) | exact isI.gc (isW.i3 (by assumption)) | exact isI.gx (isW.i4 (by assumption)) | exact isI.gc (isW.i4 (by assumption)) | exact isI.gx (isW.i5 (by assumption)) | exact isI.gc (isW.i5 (by assumption)) | exact isR.gx (by assumption) | exact isRd.gx (by assumption) | exact isSp.gx (by assumption) | exact isI.gx (isR.i (by assumption)) | exact isI.gx (isRd.i (by assumption)) | exact isI.gc (isRd.i (by assumption)) | exact isI.gx (isSp.i (by assumption)) | exact isW.gx (isR.w (by assumption)) | exact isW.gF (isR.w (by assumption)) | fail "no such object") rfl rfl (Nat.le_of_ble_eq_true rfl) (rd_mayBegin _ hD ho (k := kd) hkr hbr hgd) (fun v_9 h_9 q_9 => ?_)
  obtain ⟨q_9b, -, e_9⟩ := q_9
  have e_9 := e_9.symm
  subst e_9
  obtain rfl := q_9b hm
  refine rj_if_ne (pc := 12) (tgt := 25) dX2_readStep_12 (by decide) (by first | exact b01_r | exact bz_r | omega | (constructor <;> omega) | apply_assumption | (apply atF_r; assumption) | fail "no range") (fun c_12 => ?_) (fun c_12 => ?_)
  · try simp only [b01_0, bz_0, Classical.not_not] at c_12
    refine r_aload_n (pc := 25) dX2_readStep_25 rfl (by first | rfl | exact isRefV_rf _) ?_
    refine r_dup (pc := 26) dX2_readStep_26 (by first | rfl | (cases ‹Option Nat› <;> rfl)) ?_
    refine r_getf (pc := 27) dX2_readStep_27 fX2_53 (by first | assumption | exact isI.gx (by assumption) | exact isI.gc (by assumption) | exact isW.gx (by assumption) | exact isW.gF (by assumption) | exact isW.gT (by assumption) (by omega) | exact isW.gS (by assumption) (by omega) | exact isW.gK (by assumption) (by omega) | exact isW.g1 (by assumption) | exact isW.g2 (by assumption) | exact isW.g3 (by assumption) | exact isI.gx (isW.i0 (by assumption)) | exact isI.gc (isW.i0 (by assumption)) | exact isI.gx (isW.i1 (by assumption)) | exact isI.gc (isW.i1 (by assumption)) | exact isI.gx (isW.i2 (by assumption)) | exact isI.gc (isW.i2 (by assumption)) | exact isI.gx (isW.i3 (by assumption)) | exact isI.gc (isW.i3 (by assumption)) | exact isI.gx (isW.i4 (by assumption)) | exact isI.gc (isW.i4 (by assumption)) | exact isI.gx (isW.i5 (by assumption)) | exact isI.gc (isW.i5 (by assumption)) | exact isR.gx (by assumption) | exact isRd.gx (by assumption) | exact isSp.gx (by assumption) | exact isI.gx (isR.i (by assumption)) | exact isI.gx (isRd.i (by assumption)) | exact isI.gc (isRd.i (by assumption)) | exact isI.gx (isSp.i (by assumption)) | exact isW.gx (isR.w (by assumption)) | exact isW.gF (isR.w (by assumption)) | fail "no such object") (by rfl) ?_
    refine rj_iconst (pc := 30) dX2_readStep_30 ?_
    refine rj_iadd (pc := 31) dX2_readStep_31 ?_
    refine rc_putD1 (pc := 32) dX2_readStep_32 fX2_53 (by assumption) (fun h_32 hW_32 hS_32 => ?_)
    refine rg_newC (pc := 35) (z := h.2.1) dX2_readStep_35 cX2_23 hS_32.2.1 (fun h_35 o_35 s_35 l_35 n_35 k_35 => ?_)
    have ll := hD.lo
    have e1 := hS_32.1
    have e2 := hS_32.2.1
    have e3 := hS_32.2.2.1
    have hD_35 := hW_32.keep2 (h' := h_35) l_35 (fun b hb => s_35 b (by unfold dBlk at hb; omega))
    refine r_dup (pc := 38) dX2_readStep_38 (by first | rfl | (cases ‹Option Nat› <;> rfl)) ?_
    refine r_iload_n (pc := 39) dX2_readStep_39 rfl ?_
    refine r_callI1 (pc := 40) dX2_readStep_40 qX6_init rfl kX2_25 rfl iX6_init (Nat.le_of_ble_eq_true rfl) (k_X6 _ o_35 (by omega)) (fun v_40 h_40 q_40 => ?_)
    obtain ⟨rfl, o_40, S_40⟩ := q_40
    have hD_40 := hD_35.keep2 S_40.1 (fun b hb => S_40.2.2.2 b (by unfold dBlk at hb; omega))
    have f1 := S_40.1
    have f2 := S_40.2.1
    have f3 := S_40.2.2.1
    have o_41 : hGet h_40 h.2.1 = some (stO kd 0 0 0 none none) := by unfold stO; rw [← J_0]; exact o_40
    refine r_astore (pc := 43) dX2_readStep_43 (Nat.le_of_ble_eq_true rfl) (by first | rfl | exact isRefV_rf _) ?_
    dsimp only [lsSt, List.set, mLs, mEnt]
    refine r_iload_n (pc := 45) dX2_readStep_45 rfl ?_
    refine rj_lsw (pc := 46) dX2_readStep_46 rfl (by first | exact b01_r | exact bz_r | omega | (constructor <;> omega) | apply_assumption | (apply atF_r; assumption) | fail "no range") (by simp only [Op.lookupswitch.offset_cons, Op.lookupswitch.offset_nil]; repeat' split; all_goals omega) (fun off_46 tgt_46 ho_46 ht_46 => ?_)
    simp only [Op.lookupswitch.offset_cons, Op.lookupswitch.offset_nil] at ho_46
    by_cases e_46_33 : (33 : Int) = kd
    · rw [if_pos e_46_33] at ho_46
      obtain rfl : tgt_46 = 157 := by omega
      exact T 157 h_40 (by omega) hD_40 o_41 (by omega) (by omega) (by omega) (fun b hb hn => (S_40.2.2.2 b (by omega)).trans ((s_35 b (by omega)).trans (hS_32.2.2.2 b hn)))
    rw [if_neg e_46_33] at ho_46
    by_cases e_46_40 : (40 : Int) = kd
    · rw [if_pos e_46_40] at ho_46
      obtain rfl : tgt_46 = 291 := by omega
      exact T 291 h_40 (by omega) hD_40 o_41 (by omega) (by omega) (by omega) (fun b hb hn => (S_40.2.2.2 b (by omega)).trans ((s_35 b (by omega)).trans (hS_32.2.2.2 b hn)))
    rw [if_neg e_46_40] at ho_46
    by_cases e_46_41 : (41 : Int) = kd
    · rw [if_pos e_46_41] at ho_46
      obtain rfl : tgt_46 = 304 := by omega
      exact T 304 h_40 (by omega) hD_40 o_41 (by omega) (by omega) (by omega) (fun b hb hn => (S_40.2.2.2 b (by omega)).trans ((s_35 b (by omega)).trans (hS_32.2.2.2 b hn)))
    rw [if_neg e_46_41] at ho_46
    by_cases e_46_43 : (43 : Int) = kd
    · rw [if_pos e_46_43] at ho_46
      obtain rfl : tgt_46 = 128 := by omega
      exact T 128 h_40 (by omega) hD_40 o_41 (by omega) (by omega) (by omega) (fun b hb hn => (S_40.2.2.2 b (by omega)).trans ((s_35 b (by omega)).trans (hS_32.2.2.2 b hn)))
    rw [if_neg e_46_43] at ho_46
    by_cases e_46_63 : (63 : Int) = kd
    · rw [if_pos e_46_63] at ho_46
      obtain rfl : tgt_46 = 245 := by omega
      exact T 245 h_40 (by omega) hD_40 o_41 (by omega) (by omega) (by omega) (fun b hb hn => (S_40.2.2.2 b (by omega)).trans ((s_35 b (by omega)).trans (hS_32.2.2.2 b hn)))
    rw [if_neg e_46_63] at ho_46
    by_cases e_46_97 : (97 : Int) = kd
    · rw [if_pos e_46_97] at ho_46
      obtain rfl : tgt_46 = 169 := by omega
      exact T 169 h_40 (by omega) hD_40 o_41 (by omega) (by omega) (by omega) (fun b hb hn => (S_40.2.2.2 b (by omega)).trans ((s_35 b (by omega)).trans (hS_32.2.2.2 b hn)))
    rw [if_neg e_46_97] at ho_46
    by_cases e_46_107 : (107 : Int) = kd
    · rw [if_pos e_46_107] at ho_46
      obtain rfl : tgt_46 = 231 := by omega
      exact T 231 h_40 (by omega) hD_40 o_41 (by omega) (by omega) (by omega) (fun b hb hn => (S_40.2.2.2 b (by omega)).trans ((s_35 b (by omega)).trans (hS_32.2.2.2 b hn)))
    rw [if_neg e_46_107] at ho_46
    by_cases e_46_109 : (109 : Int) = kd
    · rw [if_pos e_46_109] at ho_46
      obtain rfl : tgt_46 = 203 := by omega
      exact T 203 h_40 (by omega) hD_40 o_41 (by omega) (by omega) (by omega) (fun b hb hn => (S_40.2.2.2 b (by omega)).trans ((s_35 b (by omega)).trans (hS_32.2.2.2 b hn)))
    rw [if_neg e_46_109] at ho_46
    by_cases e_46_120 : (120 : Int) = kd
    · rw [if_pos e_46_120] at ho_46
      obtain rfl : tgt_46 = 191 := by omega
      exact T 191 h_40 (by omega) hD_40 o_41 (by omega) (by omega) (by omega) (fun b hb hn => (S_40.2.2.2 b (by omega)).trans ((s_35 b (by omega)).trans (hS_32.2.2.2 b hn)))
    rw [if_neg e_46_120] at ho_46
    obtain rfl : tgt_46 = 317 := by omega
    exact T 317 h_40 (by omega) hD_40 o_41 (by omega) (by omega) (by omega) (fun b hb hn => (S_40.2.2.2 b (by omega)).trans ((s_35 b (by omega)).trans (hS_32.2.2.2 b hn)))
  · try simp only [b01_0, bz_0, Classical.not_not] at c_12
    all_goals (first | exact absurd trivial ‹¬ True› | (exfalso; omega))
