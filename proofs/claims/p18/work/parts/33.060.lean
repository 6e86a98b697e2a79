section mg_42
set_option maxHeartbeats 4000000 in
set_option maxRecDepth 100000 in
theorem L_entry {G : mG} {l : Launch} (d : Nat) {h : mH} {x s : Nat} {f4 f6 f8 f9 f10 f11 f12 f13 f14 f16 f18 : Int} {m kp was pool tape pln pap rwd rw : Nat → Int}(hB : isM h x (mFs x f4 f6 f8 f9 f10 f11 f12 f13 f14 f16 f18 s) m kp was pool tape pln pap rwd rw) (hM : ∀ q, InR (m q)) {N C : Nat} (hN : m 1 = (N : Int)) (hcap : N ≤ 90) (hC : m 0 = (C : Int)) (hC1 : 1 ≤ C) (hC2 : C ≤ 60) {a k : Int} (ha : InR a) : ∀ (n : Nat) (f : Int), -5 ≤ f → f ≤ 159 → 0 ≤ k → k + n ≤ 1000 → RUN G l (d + 4) mX11_entry 49 [some (.ref x), some (.int (J a)), some (.int (J k)), some (.int (J f)), some (.int (J (k + n)))] [] h (fun v h' => v = some (.int (J (enL m N C a n f))) ∧ h' = h) := by
  have hB0 := hB
  dsimp only [mFs] at hB
  intro n
  induction n with
  | zero =>
    intro f h0 h1 h2 h3
    refine r_iload (pc := 49) dX11_entry_49 rfl ?_
    refine r_iload_n (pc := 51) dX11_entry_51 rfl ?_
    refine rj_icmp_le (pc := 52) (tgt := 72) dX11_entry_52 (by decide) (by first | assumption | exact b01_r | exact bz_r | omega | (constructor <;> omega) | exact hM _ | exact hPo _ | exact hTa _ | exact hRo _) (by first | assumption | exact b01_r | exact bz_r | omega | (constructor <;> omega) | exact hM _ | exact hPo _ | exact hTa _ | exact hRo _) (fun c_52 => ?_) (fun c_52 => ?_)
    · refine r_iload_n (pc := 72) dX11_entry_72 rfl ?_
      refine r_ireturn (pc := 73) .int dX11_entry_73 rfl (by first | rfl | assumption) ?_
      exact ⟨rfl, rfl⟩
    · exfalso; omega
  | succ n ih =>
    intro f h0 h1 h2 h3
    have rr := eaV_r (m := m) (N := N) (C := C) (a := a) (st := stampI m f)
    refine r_iload (pc := 49) dX11_entry_49 rfl ?_
    refine r_iload_n (pc := 51) dX11_entry_51 rfl ?_
    refine rj_icmp_le (pc := 52) (tgt := 72) dX11_entry_52 (by decide) (by first | assumption | exact b01_r | exact bz_r | omega | (constructor <;> omega) | exact hM _ | exact hPo _ | exact hTa _ | exact hRo _) (by first | assumption | exact b01_r | exact bz_r | omega | (constructor <;> omega) | exact hM _ | exact hPo _ | exact hTa _ | exact hRo _) (fun c_52 => ?_) (fun c_52 => ?_)
    · refine r_iload_n (pc := 72) dX11_entry_72 rfl ?_
      refine r_ireturn (pc := 73) .int dX11_entry_73 rfl (by first | rfl | assumption) ?_
      exfalso; omega
    · refine r_aload_n (pc := 55) dX11_entry_55 rfl (by first | rfl | exact isRefV_rf _) ?_
      refine r_iload_n (pc := 56) dX11_entry_56 rfl ?_
      refine r_aload_n (pc := 57) dX11_entry_57 rfl (by first | rfl | exact isRefV_rf _) ?_
      refine r_iload_n (pc := 58) dX11_entry_58 rfl ?_
      refine r_callV1 (pc := 59) dX11_entry_59 qX11_stampOf kX11_258 vX11_stampOf (by exact isM.gx (by assumption)) rfl rfl (Nat.le_of_ble_eq_true rfl) (m_stampOfI (d + 2) hB0 (by omega) (by omega)) (fun v_59 h_59 q_59 => ?_)
      obtain ⟨rfl, rfl⟩ := q_59
      refine r_callV2 (pc := 62) dX11_entry_62 qX11_entryAhead kX11_261 vX11_entryAhead (by exact isM.gx (by assumption)) rfl rfl (Nat.le_of_ble_eq_true rfl) (m_entryAhead d hB0 hM hN hcap hC hC2 ha (stampI_r hM _)) (fun v_62 h_62 q_62 => ?_)
      obtain ⟨rfl, rfl⟩ := q_62
      refine r_istore_n (pc := 65) dX11_entry_65 (Nat.le_of_ble_eq_true rfl) ?_
      dsimp only [lsSt, List.set, mLs, mEnt]
      refine rj_iinc (pc := 66) dX11_entry_66 (Nat.le_of_ble_eq_true rfl) rfl ?_
      dsimp only [lsSt, List.set, mLs, mEnt]
      refine r_goto (pc := 69) (tgt := 49) dX11_entry_69 (by decide) ?_
      have z := ih (eaV m N C a (stampI m f)) rr.1 rr.2 h2 (by omega)
      rw [show k + ((n + 1 : Nat) : Int) + -1 = k + n by omega]
      exact z
end mg_42
