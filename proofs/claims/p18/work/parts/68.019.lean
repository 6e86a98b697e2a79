section mg_71
set_option maxHeartbeats 4000000 in
set_option maxRecDepth 100000 in
theorem L_goes0 {G : mG} {l : Launch} {D : Nat} {h : mH} {v0 v1 v2 v3 v5 : Option Value} {Q : Option Value → mH → Prop} (K : RUN G l D mX11_turn 182 [v0, v1, v2, v3, some (.int (J 0)), v5] [] h Q) : RUN G l D mX11_turn 92 [v0, v1, v2, v3, some (.int (J 0)), v5] [] h Q := by
  refine r_iload (pc := 92) dX11_turn_92 rfl ?_
  refine rj_if_eq (pc := 94) (tgt := 182) dX11_turn_94 (by decide) (by first | assumption | exact b01_r | exact bz_r | omega | (constructor <;> omega) | exact hM _ | exact hPo _ | exact hTa _ | exact hRo _) (fun c_94 => ?_) (fun c_94 => ?_)
  · try simp only [b01_0, bz_0, Classical.not_not] at c_94
    exact K
  · try simp only [b01_0, bz_0, Classical.not_not] at c_94
    all_goals (first | exact absurd trivial ‹¬ True› | (exfalso; omega))
end mg_71
