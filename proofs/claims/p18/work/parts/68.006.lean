section mg_69
theorem behL_r {pool : Nat → Int} : ∀ (n p : Nat) (u : Int), p ≤ behL pool n p u ∧ behL pool n p u ≤ p + n
  | 0, p, u => by unfold behL; omega
  | n + 1, p, u => by
    have h := behL_r (pool := pool) n (p + 1) (u + brk (pool p))
    unfold behL
    split <;> omega
set_option maxHeartbeats 4000000 in
set_option maxRecDepth 100000 in
theorem L_out {G : mG} {l : Launch} {D : Nat} {h : mH} {f1 : Int} {v0 v1 v3 v4 : Option Value} {Q : Option Value → mH → Prop} (hf1 : InR f1) (hne : ¬ f1 = 0) (K : RUN G l D mX11_closes 88 [v0, v1, some (.int (J f1)), v3, v4] [] h Q) : RUN G l D mX11_closes 48 [v0, v1, some (.int (J f1)), v3, v4] [] h Q := by
  refine r_iload_n (pc := 48) dX11_closes_48 rfl ?_
  refine rj_if_ne (pc := 49) (tgt := 88) dX11_closes_49 (by decide) (by first | assumption | exact b01_r | exact bz_r | omega | (constructor <;> omega) | exact hM _ | exact hPo _ | exact hTa _ | exact hRo _) (fun c_49 => ?_) (fun c_49 => ?_)
  · try simp only [b01_0, bz_0, Classical.not_not] at c_49
    exact K
  · try simp only [b01_0, bz_0, Classical.not_not] at c_49
    exfalso; omega
end mg_69
