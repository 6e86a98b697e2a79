section mg_71
set_option maxHeartbeats 4000000 in
set_option maxRecDepth 100000 in
theorem L_ticks {G : mG} {l : Launch} {x s : Nat} {f4 f6 f8 f9 f10 f11 f12 f13 f16 f18 : Int} {kp was pool tape pln pap rwd rw : Nat → Int} (hPo : ∀ q, InR (pool q)) {B : Nat} (hB1 : B ≤ 100) {m' : Nat → Int} : ∀ (n i k : Nat) (m : Nat → Int) (f14 : Int) (h : mH), i + n = B → InR f14 → isM h x (mFs x f4 f6 f8 f9 f10 f11 f12 f13 f14 f16 f18 s) m kp was pool tape pln pap rwd rw → ticksR pool n m k m' → RUN G l 401 mX11_ticks 2 [some (.ref x), some (.int (J (B : Int))), some (.int (J (i : Int)))] [] h (fun v h' => v = some (.int (J ((i + k : Nat) : Int))) ∧ (∃ g14, InR g14 ∧ isM h' x (mFs x f4 f6 f8 f9 f10 f11 f12 f13 g14 f16 f18 s) m' kp was pool tape pln pap rwd rw) ∧ Same (mBlk x) h h') := by
  intro n
  induction n with
  | zero =>
    intro i k m f14 h hi h14 hB hR
    obtain ⟨rfl, rfl⟩ := hR
    have hB0 := hB
    refine r_iload_n (pc := 2) dX11_ticks_2 rfl ?_
    refine r_iload_n (pc := 3) dX11_ticks_3 rfl ?_
    refine rj_icmp_ge (pc := 4) (tgt := 20) dX11_ticks_4 (by decide) (by first | assumption | exact b01_r | exact bz_r | omega | (constructor <;> omega) | exact hM _ | exact hPo _ | exact hTa _ | exact hRo _) (by first | assumption | exact b01_r | exact bz_r | omega | (constructor <;> omega) | exact hM _ | exact hPo _ | exact hTa _ | exact hRo _) (fun c_4 => ?_) (fun c_4 => ?_)
    · refine r_iload_n (pc := 20) dX11_ticks_20 rfl ?_
      refine r_ireturn (pc := 21) .int dX11_ticks_21 rfl (by first | rfl | assumption) ?_
      exact ⟨by rw [Nat.add_zero], ⟨_, h14, hB0⟩, Same.refl⟩
    · exfalso; omega
  | succ n ih =>
    intro i k m f14 h hi h14 hB hR
    obtain ⟨m1, ht, hR⟩ := hR
    have rn := nextV_r ht.1
    have k3 := ht.1.2.2.2.2.1
    have hB0 := hB
    have g14 : InR (sinkV m f14) := by unfold sinkV; split; exact ⟨by omega, by omega⟩; exact h14
    rcases hR with ⟨hn, rfl, rfl⟩ | ⟨hn, k1, rfl, hR⟩
    · refine r_iload_n (pc := 2) dX11_ticks_2 rfl ?_
      refine r_iload_n (pc := 3) dX11_ticks_3 rfl ?_
      refine rj_icmp_ge (pc := 4) (tgt := 20) dX11_ticks_4 (by decide) (by first | assumption | exact b01_r | exact bz_r | omega | (constructor <;> omega) | exact hM _ | exact hPo _ | exact hTa _ | exact hRo _) (by first | assumption | exact b01_r | exact bz_r | omega | (constructor <;> omega) | exact hM _ | exact hPo _ | exact hTa _ | exact hRo _) (fun c_4 => ?_) (fun c_4 => ?_)
      · exfalso; omega
      · refine r_aload_n (pc := 7) dX11_ticks_7 rfl (by first | rfl | exact isRefV_rf _) ?_
        refine r_callV0 (pc := 8) dX11_ticks_8 qX11_tick kX11_211 vX11_tick (by exact isM.gx (by assumption)) rfl rfl (Nat.le_of_ble_eq_true rfl) (m_tick hPo hB0 ht) (fun v_8 h_8 q_8 => ?_)
        obtain ⟨rfl, hB_8, S_8⟩ := q_8
        refine rj_if_lt (pc := 11) (tgt := 20) dX11_ticks_11 (by decide) (by first | assumption | exact b01_r | exact bz_r | omega | (constructor <;> omega) | exact hM _ | exact hPo _ | exact hTa _ | exact hRo _) (fun c_11 => ?_) (fun c_11 => ?_)
        · refine r_iload_n (pc := 20) dX11_ticks_20 rfl ?_
          refine r_ireturn (pc := 21) .int dX11_ticks_21 rfl (by first | rfl | assumption) ?_
          exact ⟨by rw [Nat.add_zero], ⟨_, g14, hB_8⟩, S_8⟩
        · exfalso; omega
    · refine r_iload_n (pc := 2) dX11_ticks_2 rfl ?_
      refine r_iload_n (pc := 3) dX11_ticks_3 rfl ?_
      refine rj_icmp_ge (pc := 4) (tgt := 20) dX11_ticks_4 (by decide) (by first | assumption | exact b01_r | exact bz_r | omega | (constructor <;> omega) | exact hM _ | exact hPo _ | exact hTa _ | exact hRo _) (by first | assumption | exact b01_r | exact bz_r | omega | (constructor <;> omega) | exact hM _ | exact hPo _ | exact hTa _ | exact hRo _) (fun c_4 => ?_) (fun c_4 => ?_)
      · exfalso; omega
      · refine r_aload_n (pc := 7) dX11_ticks_7 rfl (by first | rfl | exact isRefV_rf _) ?_
        refine r_callV0 (pc := 8) dX11_ticks_8 qX11_tick kX11_211 vX11_tick (by exact isM.gx (by assumption)) rfl rfl (Nat.le_of_ble_eq_true rfl) (m_tick hPo hB0 ht) (fun v_8 h_8 q_8 => ?_)
        obtain ⟨rfl, hB_8, S_8⟩ := q_8
        refine rj_if_lt (pc := 11) (tgt := 20) dX11_ticks_11 (by decide) (by first | assumption | exact b01_r | exact bz_r | omega | (constructor <;> omega) | exact hM _ | exact hPo _ | exact hTa _ | exact hRo _) (fun c_11 => ?_) (fun c_11 => ?_)
        · exfalso; omega
        · refine rj_iinc (pc := 14) dX11_ticks_14 (Nat.le_of_ble_eq_true rfl) rfl ?_
          dsimp only [lsSt, List.set, mLs, mEnt]
          refine r_goto (pc := 17) (tgt := 2) dX11_ticks_17 (by decide) ?_
          have y := ih (i + 1) k1 m1 _ _ (by omega) g14 hB_8 hR
          rw [show ((i : Int) + 1) = ((i + 1 : Nat) : Int) by omega]
          exact y.mono (fun v h' q => ⟨by rw [q.1]; congr 3; omega, q.2.1, S_8.trans q.2.2⟩)
end mg_71
