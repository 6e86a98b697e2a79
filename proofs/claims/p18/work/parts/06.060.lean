section mg_28
set_option maxHeartbeats 4000000 in
set_option maxRecDepth 100000 in
theorem L_nameEnd {G : mG} {l : Launch} (d : Nat) {h : mH} {x s : Nat} {f4 f6 f8 f9 f10 f11 f12 f13 f14 f16 f18 : Int} {m kp was pool tape pln pap rwd rw : Nat → Int}(hB : isM h x (mFs x f4 f6 f8 f9 f10 f11 f12 f13 f14 f16 f18 s) m kp was pool tape pln pap rwd rw) (hPo : ∀ q, InR (pool q)) {p : Nat} (hp : p + 8 ≤ 12342) : ∀ n k : Nat, p ≤ k → (k - p) + n = 7 → RUN G l (d + 1) mX11_nameEnd 2 [some (.ref x), some (.int (J (p : Int))), some (.int (J (k : Int)))] [] h (fun v h' => v = some (.int (J (neL pool n k : Nat))) ∧ h' = h) := by
  dsimp only [mFs] at hB
  intro n
  induction n with
  | zero =>
    intro k hk hn
    refine r_iload_n (pc := 2) dX11_nameEnd_2 rfl ?_
    refine r_iload_n (pc := 3) dX11_nameEnd_3 rfl ?_
    refine rj_isub (pc := 4) dX11_nameEnd_4 ?_
    refine rj_bipush (pc := 5) dX11_nameEnd_5 (by decide +kernel) ?_
    refine rj_icmp_ge (pc := 7) (tgt := 32) dX11_nameEnd_7 (by decide) (by first | assumption | exact b01_r | exact bz_r | omega | (constructor <;> omega) | exact hM _ | exact hPo _ | exact hTa _ | exact hRo _) (by first | assumption | exact b01_r | exact bz_r | omega | (constructor <;> omega) | exact hM _ | exact hPo _ | exact hTa _ | exact hRo _) (fun c_7 => ?_) (fun c_7 => ?_)
    · refine r_iload_n (pc := 32) dX11_nameEnd_32 rfl ?_
      refine r_ireturn (pc := 33) .int dX11_nameEnd_33 rfl (by first | rfl | assumption) ?_
      first
      | exact ⟨rfl, rfl⟩
      | (exfalso; omega)
    · refine r_aload_n (pc := 10) dX11_nameEnd_10 rfl (by first | rfl | exact isRefV_rf _) ?_
      refine rm_getf (pc := 11) dX11_nameEnd_11 fX11_21 (by assumption) rfl ?_
      refine r_iload_n (pc := 14) dX11_nameEnd_14 rfl ?_
      refine rj_iald (pc := 15) (j := k) dX11_nameEnd_15 (by first | exact isM.g0 (by assumption) | exact isM.g3 (by assumption) | exact isM.g4 (by assumption) | exact isM.g8 (by assumption) | exact isM.g7 (by assumption) | exact isM.g6 (by assumption) | exact isM.g5 (by assumption) | exact isM.g1 (by assumption) | exact isM.g2 (by assumption)) (by first | assumption | exact b01_r | exact bz_r | omega | (constructor <;> omega) | exact hM _ | exact hPo _ | exact hTa _ | exact hRo _) (by first | assumption | exact b01_r | exact bz_r | omega | (constructor <;> omega) | exact hM _ | exact hPo _ | exact hTa _ | exact hRo _) (by first | assumption | exact b01_r | exact bz_r | omega | (constructor <;> omega) | exact hM _ | exact hPo _ | exact hTa _ | exact hRo _) (by omega) ?_
      refine rj_bipush (pc := 16) dX11_nameEnd_16 (by decide +kernel) ?_
      refine rj_bipush (pc := 18) dX11_nameEnd_18 (by decide +kernel) ?_
      refine r_callS3 (pc := 20) dX11_nameEnd_20 qX11_isIn kX11_46 sX11_isIn (Nat.le_of_ble_eq_true rfl) (m_isIn d (hPo _) (by decide) (by decide)) (fun v_20 h_20 q_20 => ?_)
      obtain ⟨rfl, rfl⟩ := q_20
      refine rj_if_eq (pc := 23) (tgt := 32) dX11_nameEnd_23 (by decide) (by first | assumption | exact b01_r | exact bz_r | omega | (constructor <;> omega) | exact hM _ | exact hPo _ | exact hTa _ | exact hRo _) (fun c_23 => ?_) (fun c_23 => ?_)
      · try simp only [b01_0, bz_0, Classical.not_not] at c_23
        refine r_iload_n (pc := 32) dX11_nameEnd_32 rfl ?_
        refine r_ireturn (pc := 33) .int dX11_nameEnd_33 rfl (by first | rfl | assumption) ?_
        first
        | exact ⟨rfl, rfl⟩
        | (exfalso; omega)
      · try simp only [b01_0, bz_0, Classical.not_not] at c_23
        refine rj_iinc (pc := 26) dX11_nameEnd_26 (Nat.le_of_ble_eq_true rfl) rfl ?_
        dsimp only [lsSt, List.set, mLs, mEnt]
        refine r_goto (pc := 29) (tgt := 2) dX11_nameEnd_29 (by decide) ?_
        exfalso; omega
  | succ n ih =>
    intro k hk hn
    refine r_iload_n (pc := 2) dX11_nameEnd_2 rfl ?_
    refine r_iload_n (pc := 3) dX11_nameEnd_3 rfl ?_
    refine rj_isub (pc := 4) dX11_nameEnd_4 ?_
    refine rj_bipush (pc := 5) dX11_nameEnd_5 (by decide +kernel) ?_
    refine rj_icmp_ge (pc := 7) (tgt := 32) dX11_nameEnd_7 (by decide) (by first | assumption | exact b01_r | exact bz_r | omega | (constructor <;> omega) | exact hM _ | exact hPo _ | exact hTa _ | exact hRo _) (by first | assumption | exact b01_r | exact bz_r | omega | (constructor <;> omega) | exact hM _ | exact hPo _ | exact hTa _ | exact hRo _) (fun c_7 => ?_) (fun c_7 => ?_)
    · refine r_iload_n (pc := 32) dX11_nameEnd_32 rfl ?_
      refine r_ireturn (pc := 33) .int dX11_nameEnd_33 rfl (by first | rfl | assumption) ?_
      first
      | (exfalso; omega)
      | exact ⟨by rw [neL, if_neg c_23], rfl⟩
    · refine r_aload_n (pc := 10) dX11_nameEnd_10 rfl (by first | rfl | exact isRefV_rf _) ?_
      refine rm_getf (pc := 11) dX11_nameEnd_11 fX11_21 (by assumption) rfl ?_
      refine r_iload_n (pc := 14) dX11_nameEnd_14 rfl ?_
      refine rj_iald (pc := 15) (j := k) dX11_nameEnd_15 (by first | exact isM.g0 (by assumption) | exact isM.g3 (by assumption) | exact isM.g4 (by assumption) | exact isM.g8 (by assumption) | exact isM.g7 (by assumption) | exact isM.g6 (by assumption) | exact isM.g5 (by assumption) | exact isM.g1 (by assumption) | exact isM.g2 (by assumption)) (by first | assumption | exact b01_r | exact bz_r | omega | (constructor <;> omega) | exact hM _ | exact hPo _ | exact hTa _ | exact hRo _) (by first | assumption | exact b01_r | exact bz_r | omega | (constructor <;> omega) | exact hM _ | exact hPo _ | exact hTa _ | exact hRo _) (by first | assumption | exact b01_r | exact bz_r | omega | (constructor <;> omega) | exact hM _ | exact hPo _ | exact hTa _ | exact hRo _) (by omega) ?_
      refine rj_bipush (pc := 16) dX11_nameEnd_16 (by decide +kernel) ?_
      refine rj_bipush (pc := 18) dX11_nameEnd_18 (by decide +kernel) ?_
      refine r_callS3 (pc := 20) dX11_nameEnd_20 qX11_isIn kX11_46 sX11_isIn (Nat.le_of_ble_eq_true rfl) (m_isIn d (hPo _) (by decide) (by decide)) (fun v_20 h_20 q_20 => ?_)
      obtain ⟨rfl, rfl⟩ := q_20
      refine rj_if_eq (pc := 23) (tgt := 32) dX11_nameEnd_23 (by decide) (by first | assumption | exact b01_r | exact bz_r | omega | (constructor <;> omega) | exact hM _ | exact hPo _ | exact hTa _ | exact hRo _) (fun c_23 => ?_) (fun c_23 => ?_)
      · try simp only [b01_0, bz_0, Classical.not_not] at c_23
        refine r_iload_n (pc := 32) dX11_nameEnd_32 rfl ?_
        refine r_ireturn (pc := 33) .int dX11_nameEnd_33 rfl (by first | rfl | assumption) ?_
        first
        | (exfalso; omega)
        | exact ⟨by rw [neL, if_neg c_23], rfl⟩
      · try simp only [b01_0, bz_0, Classical.not_not] at c_23
        refine rj_iinc (pc := 26) dX11_nameEnd_26 (Nat.le_of_ble_eq_true rfl) rfl ?_
        dsimp only [lsSt, List.set, mLs, mEnt]
        refine r_goto (pc := 29) (tgt := 2) dX11_nameEnd_29 (by decide) ?_
        have z := ih (k + 1) (by omega) (by omega)
        rw [show neL pool (n + 1) k = neL pool n (k + 1) by rw [neL, if_pos c_23]]
        exact z
end mg_28
