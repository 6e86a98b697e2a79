section mg_9a
set_option maxHeartbeats 4000000 in
set_option maxRecDepth 100000 in
theorem pf_take {G : mG} {l : Launch} (d : Nat) {h : mH} {r : Nat} {b z : Int} {f : Nat → Int} {c : Nat → Int} {C : Nat → Nat → Int} {nm : Nat → Int64} {g : Nat → Option Nat} (hR : isR h r b z f c C nm g) (hc : ∀ q, InR (c q)) {s s0 : Nat} {kd num vl : Int} {y : Int64} {inn nx : Option Nat} (hs : hGet h s = some (stO kd num vl y inn nx)) (hkd : kd = 97) {i : Int} {N : Nat} (hN : c 0 = (N : Int)) (hcap : N ≤ 90) {Z : Nat} (hZ : c 10 = (Z : Int)) (hcapZ : Z < 150) (hsr : ¬ rBlk r s) (hi : InR i) : RUN G l (d + 4) mX3_perform 41 [some (.ref r), some (.ref s0), some (.int (J i)), some (.ref s)] [] h (fun v h' => (¬ opP c i ∧ v = some (.int (J 101)) ∧ h' = h) ∨ (opP c i ∧ 0 ≤ hnL c nm y N 0 ∧ v = some (.int (J 102)) ∧ h' = h) ∨ (opP c i ∧ hnL c nm y N 0 < 0 ∧ 90 ≤ N ∧ v = some (.int (J 103)) ∧ h' = h) ∨ (opP c i ∧ hnL c nm y N 0 < 0 ∧ N < 90 ∧ v = some (.int (J 0)) ∧ isR h' r b z f (adE (adC c N i) Z) (updC C 2 (updI (C 2) Z (N : Int))) (updL nm N y) (updO g (2 * N) inn) ∧ Same (rBlk r) h h')) := by
  refine pf_sw (d + 4) hs ⟨by omega, by omega⟩ (fun tgt ht => ?_)
  obtain rfl : tgt = 164 := by omega
  have s_u := hs
  unfold stO at s_u
  refine r_aload_n (pc := 164) dX3_perform_164 rfl (by first | rfl | exact isRefV_rf _) ?_
  refine r_iload_n (pc := 165) dX3_perform_165 rfl ?_
  refine r_aload_n (pc := 166) dX3_perform_166 rfl (by first | rfl | exact isRefV_rf _) ?_
  refine r_callV2 (pc := 167) dX3_perform_167 qX3_takeInto kX3_193 vX3_takeInto (by first | assumption | exact isI.gx (by assumption) | exact isI.gc (by assumption) | exact isW.gx (by assumption) | exact isW.gF (by assumption) | exact isW.gT (by assumption) (by omega) | exact isW.gS (by assumption) (by omega) | exact isW.gK (by assumption) (by omega) | exact isW.g1 (by assumption) | exact isW.g2 (by assumption) | exact isW.g3 (by assumption) | exact isI.gx (isW.i0 (by assumption)) | exact isI.gc (isW.i0 (by assumption)) | exact isI.gx (isW.i1 (by assumption)) | exact isI.gc (isW.i1 (by assumption)) | exact isI.gx (isW.i2 (by assumption)) | exact isI.gc (isW.i2 (by assumption)) | exact isI.gx (isW.i3 (by assumption)) | exact isI.gc (isW.i3 (by assumption)) | exact isI.gx (isW.i4 (by assumption)) | exact isI.gc (isW.i4 (by assumption)) | exact isI.gx (isW.i5 (by assumption)) | exact isI.gc (isW.i5 (by assumption)) | exact isR.gx (by assumption) | exact isRd.gx (by assumption) | exact isSp.gx (by assumption) | exact isI.gx (isR.i (by assumption)) | exact isI.gx (isRd.i (by assumption)) | exact isI.gc (isRd.i (by assumption)) | exact isI.gx (isSp.i (by assumption)) | exact isW.gx (isR.w (by assumption)) | exact isW.gF (isR.w (by assumption)) | fail "no such object") rfl rfl (Nat.le_of_ble_eq_true rfl) (cr_takeInto _ hR hc hN hcap hZ hcapZ hs hsr hi) (fun v_167 h_167 q_167 => ?_)
  obtain ⟨j_167, rfl⟩ : ∃ j, v_167 = some (.int (J j)) := by rcases q_167 with ⟨-, e, -⟩ | ⟨-, -, e, -⟩ | ⟨-, -, -, e, -⟩ | ⟨-, -, -, e, -⟩ <;> exact ⟨_, e⟩
  refine r_ireturn (pc := 170) .int dX3_perform_170 rfl (by first | rfl | assumption) ?_
  exact q_167
end mg_9a
