section mg_9a
set_option maxHeartbeats 4000000 in
set_option maxRecDepth 100000 in
theorem pf_bang {G : mG} {l : Launch} (d : Nat) {h : mH} {r : Nat} {b z : Int} {f : Nat → Int} {c : Nat → Int} {C : Nat → Nat → Int} {nm : Nat → Int64} {g : Nat → Option Nat} (hR : isR h r b z f c C nm g) (hc : ∀ q, InR (c q)) {s s0 : Nat} {kd num vl : Int} {y : Int64} {inn nx : Option Nat} (hs : hGet h s = some (stO kd num vl y inn nx)) (hkd : kd = 33) {i : Int} : RUN G l (d) mX3_perform 41 [some (.ref r), some (.ref s0), some (.int (J i)), some (.ref s)] [] h (fun v h' => v = some (.int (J num)) ∧ h' = h) := by
  refine pf_sw (d) hs ⟨by omega, by omega⟩ (fun tgt ht => ?_)
  obtain rfl : tgt = 159 := by omega
  have s_u := hs
  unfold stO at s_u
  refine r_aload_n (pc := 159) dX3_perform_159 rfl (by first | rfl | exact isRefV_rf _) ?_
  refine r_getf (pc := 160) dX3_perform_160 fX3_181 (by first | assumption | exact isI.gx (by assumption) | exact isI.gc (by assumption) | exact isW.gx (by assumption) | exact isW.gF (by assumption) | exact isW.gT (by assumption) (by omega) | exact isW.gS (by assumption) (by omega) | exact isW.gK (by assumption) (by omega) | exact isW.g1 (by assumption) | exact isW.g2 (by assumption) | exact isW.g3 (by assumption) | exact isI.gx (isW.i0 (by assumption)) | exact isI.gc (isW.i0 (by assumption)) | exact isI.gx (isW.i1 (by assumption)) | exact isI.gc (isW.i1 (by assumption)) | exact isI.gx (isW.i2 (by assumption)) | exact isI.gc (isW.i2 (by assumption)) | exact isI.gx (isW.i3 (by assumption)) | exact isI.gc (isW.i3 (by assumption)) | exact isI.gx (isW.i4 (by assumption)) | exact isI.gc (isW.i4 (by assumption)) | exact isI.gx (isW.i5 (by assumption)) | exact isI.gc (isW.i5 (by assumption)) | exact isR.gx (by assumption) | exact isRd.gx (by assumption) | exact isSp.gx (by assumption) | exact isI.gx (isR.i (by assumption)) | exact isI.gx (isRd.i (by assumption)) | exact isI.gc (isRd.i (by assumption)) | exact isI.gx (isSp.i (by assumption)) | exact isW.gx (isR.w (by assumption)) | exact isW.gF (isR.w (by assumption)) | fail "no such object") (by rfl) ?_
  refine r_ireturn (pc := 163) .int dX3_perform_163 rfl (by first | rfl | assumption) ?_
  exact ⟨rfl, rfl⟩
end mg_9a
