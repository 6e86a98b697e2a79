set_option maxHeartbeats 4000000 in
set_option maxRecDepth 100000 in
theorem rc_idle {G : mG} {l : Launch} (d : Nat) {h : mH} {a : Nat} {s : Int × Int} {o z : Int} {f : Nat → Int} (hD : isRd h a s.1 s.2 o z f) (hs : rgS z s) (ho1 : -1 ≤ o ∧ o ≤ 200) (hz : 0 ≤ z ∧ z ≤ 120) (hf : bytesOk f) (hP : hereC s.1 z f = -1) {br : Int} (hbr : InR br) : RUNM G l (d + 1) mX2_readCloser [.ref a, .int (J br)] h (fun v h' => v = some .null ∧ h' = h) := by
  obtain ⟨⟨h1, h2⟩, h3, h4⟩ := hs
  have hf' : ∀ q, InR (f q) := fun q => by have := hf q; exact ⟨by omega, by omega⟩
  have hp : InR s.1 := ⟨by omega, by omega⟩
  have he : InR s.2 := ⟨by omega, by omega⟩
  have hz' : InR z := ⟨by omega, by omega⟩
  have hh : -1 ≤ hereC s.1 z f := by
    unfold hereC; split
    · have := hf s.1.toNat; omega
    · omega
  have ho : InR o := ⟨by omega, by omega⟩
  refine RUNM.of (by decide +kernel) (Nat.le_of_ble_eq_true rfl) ?_
  refine r_aload_n (pc := 0) dX2_readCloser_0 rfl (by first | rfl | exact isRefV_rf _) ?_
  refine r_callV0 (pc := 1) dX2_readCloser_1 qX2_here kX2_34 vX2_here (by first | assumption | exact isI.gx (by assumption) | exact isI.gc (by assumption) | exact isW.gx (by assumption) | exact isW.gF (by assumption) | exact isW.gT (by assumption) (by omega) | exact isW.gS (by assumption) (by omega) | exact isW.gK (by assumption) (by omega) | exact isW.g1 (by assumption) | exact isW.g2 (by assumption) | exact isW.g3 (by assumption) | exact isI.gx (isW.i0 (by assumption)) | exact isI.gc (isW.i0 (by assumption)) | exact isI.gx (isW.i1 (by assumption)) | exact isI.gc (isW.i1 (by assumption)) | exact isI.gx (isW.i2 (by assumption)) | exact isI.gc (isW.i2 (by assumption)) | exact isI.gx (isW.i3 (by assumption)) | exact isI.gc (isW.i3 (by assumption)) | exact isI.gx (isW.i4 (by assumption)) | exact isI.gc (isW.i4 (by assumption)) | exact isI.gx (isW.i5 (by assumption)) | exact isI.gc (isW.i5 (by assumption)) | exact isR.gx (by assumption) | exact isRd.gx (by assumption) | exact isSp.gx (by assumption) | exact isI.gx (isR.i (by assumption)) | exact isI.gx (isRd.i (by assumption)) | exact isI.gc (isRd.i (by assumption)) | exact isI.gx (isSp.i (by assumption)) | exact isW.gx (isR.w (by assumption)) | exact isW.gF (isR.w (by assumption)) | fail "no such object") rfl rfl (Nat.le_of_ble_eq_true rfl) (cd_here _ hD hp he ho hz' hf') (fun v_1 h_1 q_1 => ?_)
  obtain ⟨rfl, rfl⟩ := q_1
  have rh := hereC_r (p := s.1) (z := z) hf'
  refine rj_bipush (pc := 4) dX2_readCloser_4 (by decide +kernel) ?_
  refine rj_icmp_ne (pc := 6) (tgt := 14) dX2_readCloser_6 (by decide) (by first | exact b01_r | exact bz_r | omega | (constructor <;> omega) | apply_assumption | (apply atF_r; assumption) | fail "no range") (by first | exact b01_r | exact bz_r | omega | (constructor <;> omega) | apply_assumption | (apply atF_r; assumption) | fail "no range") (fun c_6 => ?_) (fun c_6 => ?_)
  · refine r_null (pc := 14) dX2_readCloser_14 ?_
    refine r_areturn (pc := 15) _ dX2_readCloser_15 rfl (Or.inl ⟨_, rfl⟩) (by first | rfl | exact isRefV_rf _) ?_
    exact ⟨rfl, rfl⟩
  · refine r_iload_n (pc := 9) dX2_readCloser_9 rfl ?_
    refine rj_iconst (pc := 10) dX2_readCloser_10 ?_
    refine rj_icmp_lt (pc := 11) (tgt := 16) dX2_readCloser_11 (by decide) (by first | exact b01_r | exact bz_r | omega | (constructor <;> omega) | apply_assumption | (apply atF_r; assumption) | fail "no range") (by first | exact b01_r | exact bz_r | omega | (constructor <;> omega) | apply_assumption | (apply atF_r; assumption) | fail "no range") (fun c_11 => ?_) (fun c_11 => ?_)
    · exfalso; omega
    · refine r_null (pc := 14) dX2_readCloser_14 ?_
      refine r_areturn (pc := 15) _ dX2_readCloser_15 rfl (Or.inl ⟨_, rfl⟩) (by first | rfl | exact isRefV_rf _) ?_
      exact ⟨rfl, rfl⟩
