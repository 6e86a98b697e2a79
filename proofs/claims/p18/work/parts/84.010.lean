section mg_85
set_option maxHeartbeats 4000000 in
set_option maxRecDepth 100000 in
theorem cq_scopesAbove {G : mG} {l : Launch} (d : Nat) {h : mH} {w : Nat} {c : Nat → Int} {C : Nat → Nat → Int} {nm : Nat → Int64} {g : Nat → Option Nat} (hW : isW h w c C nm g) (hc : ∀ q, InR (c q)) (hO : oOk c) {i : Int} (h1 : 0 ≤ i) (h2 : i ≤ 59) : RUNM G l (d + 2) mX9_scopesAbove [.ref w, .int (J i)] h (fun v h' => v = some (.int (J (saL c 60 (ownF c (100 + i))))) ∧ h' = h) := by
  refine RUNM.of (by decide +kernel) (Nat.le_of_ble_eq_true rfl) ?_
  refine rj_iconst (pc := 0) dX9_scopesAbove_0 ?_
  refine r_istore_n (pc := 1) dX9_scopesAbove_1 (Nat.le_of_ble_eq_true rfl) ?_
  dsimp only [lsSt, List.set, mLs, mEnt]
  refine r_aload_n (pc := 2) dX9_scopesAbove_2 rfl (by first | rfl | exact isRefV_rf _) ?_
  refine rj_bipush (pc := 3) dX9_scopesAbove_3 (by decide +kernel) ?_
  refine r_iload_n (pc := 5) dX9_scopesAbove_5 rfl ?_
  refine rj_iadd (pc := 6) dX9_scopesAbove_6 ?_
  refine r_callV1 (pc := 7) dX9_scopesAbove_7 qX9_ownerOf kX9_151 vX9_ownerOf (by first | assumption | exact isI.gx (by assumption) | exact isI.gc (by assumption) | exact isW.gx (by assumption) | exact isW.gF (by assumption) | exact isW.gT (by assumption) (by omega) | exact isW.gS (by assumption) (by omega) | exact isW.gK (by assumption) (by omega) | exact isW.g1 (by assumption) | exact isW.g2 (by assumption) | exact isW.g3 (by assumption) | exact isI.gx (isW.i0 (by assumption)) | exact isI.gc (isW.i0 (by assumption)) | exact isI.gx (isW.i1 (by assumption)) | exact isI.gc (isW.i1 (by assumption)) | exact isI.gx (isW.i2 (by assumption)) | exact isI.gc (isW.i2 (by assumption)) | exact isI.gx (isW.i3 (by assumption)) | exact isI.gc (isW.i3 (by assumption)) | exact isI.gx (isW.i4 (by assumption)) | exact isI.gc (isW.i4 (by assumption)) | exact isI.gx (isW.i5 (by assumption)) | exact isI.gc (isW.i5 (by assumption)) | exact isR.gx (by assumption) | exact isRd.gx (by assumption) | exact isSp.gx (by assumption) | exact isI.gx (isR.i (by assumption)) | exact isI.gx (isRd.i (by assumption)) | exact isI.gc (isRd.i (by assumption)) | exact isI.gx (isSp.i (by assumption)) | exact isW.gx (isR.w (by assumption)) | exact isW.gF (isR.w (by assumption)) | fail "no such object") rfl rfl (Nat.le_of_ble_eq_true rfl) (cw_ownerOf _ hW hc (i := 100 + i) ⟨by omega, by omega⟩) (fun v_7 h_7 q_7 => ?_)
  obtain ⟨rfl, rfl⟩ := q_7
  refine r_istore_n (pc := 10) dX9_scopesAbove_10 (Nat.le_of_ble_eq_true rfl) ?_
  dsimp only [lsSt, List.set, mLs, mEnt]
  have z := hO (100 + i)
  have y := L_scopesAbove (G := G) (l := l) d hW hc hO (i := i) 60 0 _ (by omega) z.1 z.2
  rw [show ((0 : Nat) : Int) + saL c 60 (ownF c (100 + i)) = saL c 60 (ownF c (100 + i)) from Int.zero_add _] at y
  exact y
end mg_85
