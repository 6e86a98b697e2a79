section mg_9a
set_option maxHeartbeats 4000000 in
set_option maxRecDepth 100000 in
theorem pf_nop {G : mG} {l : Launch} (d : Nat) {h : mH} {r : Nat} {b z : Int} {f : Nat → Int} {c : Nat → Int} {C : Nat → Nat → Int} {nm : Nat → Int64} {g : Nat → Option Nat} (hR : isR h r b z f c C nm g) (hc : ∀ q, InR (c q)) {s s0 : Nat} {kd num vl : Int} {y : Int64} {inn nx : Option Nat} (hs : hGet h s = some (stO kd num vl y inn nx)) (hkd : kd = 46) {i : Int} : RUN G l (d) mX3_perform 41 [some (.ref r), some (.ref s0), some (.int (J i)), some (.ref s)] [] h (fun v h' => v = some (.int (J 0)) ∧ h' = h) := by
  refine pf_sw (d) hs ⟨by omega, by omega⟩ (fun tgt ht => ?_)
  obtain rfl : tgt = 212 := by omega
  have s_u := hs
  unfold stO at s_u
  refine rj_iconst (pc := 212) dX3_perform_212 ?_
  refine r_ireturn (pc := 213) .int dX3_perform_213 rfl (by first | rfl | assumption) ?_
  exact ⟨rfl, rfl⟩
end mg_9a
