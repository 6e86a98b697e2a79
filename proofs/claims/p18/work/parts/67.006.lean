set_option maxHeartbeats 4000000 in
set_option maxRecDepth 100000 in
theorem L_colon {G : mG} {l : Launch} {D : Nat} {h : mH} {x s : Nat} {f4 f6 f8 f9 f10 f11 f12 f13 f14 f16 f18 : Int} {m kp was pool tape pln pap rwd rw : Nat → Int}(hB : isM h x (mFs x f4 f6 f8 f9 f10 f11 f12 f13 f14 f16 f18 s) m kp was pool tape pln pap rwd rw) {p k : Nat} {s2 : Int} (hPo : ∀ q, InR (pool q)) (hk4 : k ≤ 12341) (hcol : pool k = 58) (lo : Nat) (hnc : ∀ j, lo ≤ j → j < k → ¬ pool j = 58) {Q : Option Value → mH → Prop} (K : RUN G l D mX11_does 294 [some (.ref x), some (.int (J (p : Int))), some (.int (J s2)), some (.int (J (k : Int))), none, none] [] h Q) : ∀ i j : Nat, j + i = k → lo ≤ j → RUN G l D mX11_does 277 [some (.ref x), some (.int (J (p : Int))), some (.int (J s2)), some (.int (J (j : Int))), none, none] [] h Q := by
  dsimp only [mFs] at hB
  intro i
  induction i with
  | zero =>
    intro j hj hl
    obtain rfl : j = k := by omega
    have rp := hPo j
    refine r_aload_n (pc := 277) dX11_does_277 rfl (by first | rfl | exact isRefV_rf _) ?_
    refine rm_getf (pc := 278) dX11_does_278 fX11_21 (by assumption) rfl ?_
    refine r_iload_n (pc := 281) dX11_does_281 rfl ?_
    refine rj_iald (pc := 282) (j := j) dX11_does_282 (by first | exact isM.g0 (by assumption) | exact isM.g3 (by assumption) | exact isM.g4 (by assumption) | exact isM.g8 (by assumption) | exact isM.g7 (by assumption) | exact isM.g6 (by assumption) | exact isM.g5 (by assumption) | exact isM.g1 (by assumption) | exact isM.g2 (by assumption)) (by first | assumption | exact b01_r | exact bz_r | omega | (constructor <;> omega) | exact hM _ | exact hPo _ | exact hTa _ | exact hRo _) (by first | assumption | exact b01_r | exact bz_r | omega | (constructor <;> omega) | exact hM _ | exact hPo _ | exact hTa _ | exact hRo _) (by first | assumption | exact b01_r | exact bz_r | omega | (constructor <;> omega) | exact hM _ | exact hPo _ | exact hTa _ | exact hRo _) (by omega) ?_
    refine rj_bipush (pc := 283) dX11_does_283 (by decide +kernel) ?_
    refine rj_icmp_eq (pc := 285) (tgt := 294) dX11_does_285 (by decide) (by first | assumption | exact b01_r | exact bz_r | omega | (constructor <;> omega) | exact hM _ | exact hPo _ | exact hTa _ | exact hRo _) (by first | assumption | exact b01_r | exact bz_r | omega | (constructor <;> omega) | exact hM _ | exact hPo _ | exact hTa _ | exact hRo _) (fun c_285 => ?_) (fun c_285 => ?_)
    · exact K
    · exfalso; omega
  | succ i ih =>
    intro j hj hl
    have rp := hPo j
    refine r_aload_n (pc := 277) dX11_does_277 rfl (by first | rfl | exact isRefV_rf _) ?_
    refine rm_getf (pc := 278) dX11_does_278 fX11_21 (by assumption) rfl ?_
    refine r_iload_n (pc := 281) dX11_does_281 rfl ?_
    refine rj_iald (pc := 282) (j := j) dX11_does_282 (by first | exact isM.g0 (by assumption) | exact isM.g3 (by assumption) | exact isM.g4 (by assumption) | exact isM.g8 (by assumption) | exact isM.g7 (by assumption) | exact isM.g6 (by assumption) | exact isM.g5 (by assumption) | exact isM.g1 (by assumption) | exact isM.g2 (by assumption)) (by first | assumption | exact b01_r | exact bz_r | omega | (constructor <;> omega) | exact hM _ | exact hPo _ | exact hTa _ | exact hRo _) (by first | assumption | exact b01_r | exact bz_r | omega | (constructor <;> omega) | exact hM _ | exact hPo _ | exact hTa _ | exact hRo _) (by first | assumption | exact b01_r | exact bz_r | omega | (constructor <;> omega) | exact hM _ | exact hPo _ | exact hTa _ | exact hRo _) (by omega) ?_
    refine rj_bipush (pc := 283) dX11_does_283 (by decide +kernel) ?_
    refine rj_icmp_eq (pc := 285) (tgt := 294) dX11_does_285 (by decide) (by first | assumption | exact b01_r | exact bz_r | omega | (constructor <;> omega) | exact hM _ | exact hPo _ | exact hTa _ | exact hRo _) (by first | assumption | exact b01_r | exact bz_r | omega | (constructor <;> omega) | exact hM _ | exact hPo _ | exact hTa _ | exact hRo _) (fun c_285 => ?_) (fun c_285 => ?_)
    · exact absurd c_285 (hnc j hl (by omega))
    · refine rj_iinc (pc := 288) dX11_does_288 (Nat.le_of_ble_eq_true rfl) rfl ?_
      dsimp only [lsSt, List.set, mLs, mEnt]
      refine r_goto (pc := 291) (tgt := 277) dX11_does_291 (by decide) ?_
      exact ih (j + 1) (by omega) (by omega)
