section mg_89
set_option maxHeartbeats 4000000 in
set_option maxRecDepth 100000 in
theorem cq_placeOf {G : mG} {l : Launch} (d : Nat) {h : mH} {w : Nat} {c : Nat → Int} {C : Nat → Nat → Int} {nm : Nat → Int64} {g : Nat → Option Nat} (hW : isW h w c C nm g) (hc : ∀ q, InR (c q)) {F : Nat} (h11 : c 11 = (F : Int)) (h12 : c 12 = (F : Int)) (h13 : c 13 = (F : Int)) (hcapF : F ≤ 90) (h4 : 0 ≤ c 4 ∧ c 4 ≤ (F : Int)) (hC5 : ∀ q, InR (C 5 q)) {i k : Int} (hi : InR i) (hk : InR k) : RUNM G l (d + 2) mX0_placeOf [.ref (wA w 10), .int (J i), .int (J k)] h (fun v h' => v = some (.int (J (pwF c (C 5) F i k))) ∧ h' = h) := by
  refine RUNM.of (by decide +kernel) (Nat.le_of_ble_eq_true rfl) ?_
  refine rj_iconst (pc := 0) dX0_placeOf_0 ?_
  refine r_istore_n (pc := 1) dX0_placeOf_1 (Nat.le_of_ble_eq_true rfl) ?_
  dsimp only [lsSt, List.set, mLs, mEnt]
  refine r_iload_n (pc := 2) dX0_placeOf_2 rfl ?_
  refine rj_iconst (pc := 3) dX0_placeOf_3 ?_
  refine rj_icmp_ne (pc := 4) (tgt := 14) dX0_placeOf_4 (by decide) (by first | exact b01_r | exact bz_r | omega | (constructor <;> omega) | apply_assumption | (apply atF_r; assumption) | fail "no range") (by first | exact b01_r | exact bz_r | omega | (constructor <;> omega) | apply_assumption | (apply atF_r; assumption) | fail "no range") (fun c_4 => ?_) (fun c_4 => ?_)
  · refine rj_iconst (pc := 14) dX0_placeOf_14 ?_
    refine r_istore (pc := 15) dX0_placeOf_15 (Nat.le_of_ble_eq_true rfl) ?_
    dsimp only [lsSt, List.set, mLs, mEnt]
    have y := L_placeOf (G := G) (l := l) d hW hc h11 h12 h13 hcapF h4 hC5 hi hk (b := b0F c i) (F - b0F c i) (b0F c i) (by unfold b0F; split <;> omega)
    rw [gbB_0] at y
    rw [show ((b0F c i : Nat) : Int) = 0 by unfold b0F; rw [if_neg (by omega)]; omega] at y
    exact y
  · refine r_aload_n (pc := 7) dX0_placeOf_7 rfl (by first | rfl | exact isRefV_rf _) ?_
    refine r_getf (pc := 8) dX0_placeOf_8 fX0_34 (by first | assumption | exact isI.gx (by assumption) | exact isI.gc (by assumption) | exact isW.gx (by assumption) | exact isW.gF (by assumption) | exact isW.gT (by assumption) (by omega) | exact isW.gS (by assumption) (by omega) | exact isW.gK (by assumption) (by omega) | exact isW.g1 (by assumption) | exact isW.g2 (by assumption) | exact isW.g3 (by assumption) | exact isI.gx (isW.i0 (by assumption)) | exact isI.gc (isW.i0 (by assumption)) | exact isI.gx (isW.i1 (by assumption)) | exact isI.gc (isW.i1 (by assumption)) | exact isI.gx (isW.i2 (by assumption)) | exact isI.gc (isW.i2 (by assumption)) | exact isI.gx (isW.i3 (by assumption)) | exact isI.gc (isW.i3 (by assumption)) | exact isI.gx (isW.i4 (by assumption)) | exact isI.gc (isW.i4 (by assumption)) | exact isI.gx (isW.i5 (by assumption)) | exact isI.gc (isW.i5 (by assumption)) | exact isR.gx (by assumption) | exact isRd.gx (by assumption) | exact isSp.gx (by assumption) | exact isI.gx (isR.i (by assumption)) | exact isI.gx (isRd.i (by assumption)) | exact isI.gc (isRd.i (by assumption)) | exact isI.gx (isSp.i (by assumption)) | exact isW.gx (isR.w (by assumption)) | exact isW.gF (isR.w (by assumption)) | fail "no such object") (by rfl) ?_
    refine r_goto (pc := 11) (tgt := 15) dX0_placeOf_11 (by decide) ?_
    refine r_istore (pc := 15) dX0_placeOf_15 (Nat.le_of_ble_eq_true rfl) ?_
    dsimp only [lsSt, List.set, mLs, mEnt]
    have y := L_placeOf (G := G) (l := l) d hW hc h11 h12 h13 hcapF h4 hC5 hi hk (b := b0F c i) (F - b0F c i) (b0F c i) (by unfold b0F; split <;> omega)
    rw [gbB_0] at y
    rw [show ((b0F c i : Nat) : Int) = c 4 by unfold b0F; rw [if_pos (by omega)]; omega] at y
    exact y
end mg_89
