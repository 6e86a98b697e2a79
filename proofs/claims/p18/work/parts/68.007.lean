section mg_69
set_option maxHeartbeats 4000000 in
set_option maxRecDepth 100000 in
theorem L_closes {G : mG} {l : Launch} {D N : Nat} (hD : 5 ≤ D) {x s : Nat} {f4 f6 f8 f9 f10 f11 f12 f13 f14 f16 f18 : Int} {kp was pool tape pln pap rwd rw : Nat → Int} (hPo : ∀ q, InR (pool q)) (hs : InR f14) (hcl : ∀ (m1 m2 : Nat → Int) (t : Nat) (h : mH), isM h x (mFs x f4 f6 f8 f9 f10 f11 f12 f13 f14 f16 f18 s) m1 kp was pool tape pln pap rwd rw → closesR pool f14 N m1 t m2 → RUNM G l D mX11_closes [.ref x, .int (J (t : Int))] h (fun v h' => v = none ∧ isM h' x (mFs x f4 f6 f8 f9 f10 f11 f12 f13 f14 f16 f18 s) m2 kp was pool tape pln pap rwd rw ∧ Same (mBlk x) h h')) {t E : Nat} (ht : t ≤ 89) (hE : E ≤ 12342) {f : Int} {m2 : Nat → Int} (hf : InR f) (h2 : 0 ≤ m2 2 ∧ m2 2 ≤ 89) (h4 : 0 ≤ m2 4 ∧ m2 4 ≤ 119) (h5 : 0 ≤ m2 5 ∧ m2 5 ≤ 119) : ∀ (k : Nat) (m : Nat → Int) (p : Nat) (h : mH), isM h x (mFs x f4 f6 f8 f9 f10 f11 f12 f13 f14 f16 f18 s) m kp was pool tape pln pap rwd rw → (p ≤ 12343) → loopR pool (doesR pool (closesR pool f14 N)) t E k m p f m2 → RUN G l (D + 3) mX11_closes 48 [some (.ref x), some (.int (J (t : Int))), some (.int (J 0)), some (.int (J (p : Int))), some (.int (J (E : Int)))] [] h (fun v h' => v = none ∧ isM h' x (mFs x f4 f6 f8 f9 f10 f11 f12 f13 f14 f16 f18 s) (closedM (if f = 0 then m2 else gathersM m2 f14 f t) t) kp was pool tape pln pap rwd rw ∧ Same (mBlk x) h h') := by
  have fin : ∀ (h : mH) (p : Nat), isM h x (mFs x f4 f6 f8 f9 f10 f11 f12 f13 f14 f16 f18 s) m2 kp was pool tape pln pap rwd rw → RUN G l (D + 3) mX11_closes 88 [some (.ref x), some (.int (J (t : Int))), some (.int (J f)), some (.int (J (p : Int))), some (.int (J (E : Int)))] [] h (fun v h' => v = none ∧ isM h' x (mFs x f4 f6 f8 f9 f10 f11 f12 f13 f14 f16 f18 s) (closedM (if f = 0 then m2 else gathersM m2 f14 f t) t) kp was pool tape pln pap rwd rw ∧ Same (mBlk x) h h') := by
    intro h p hB
    have hB0 := hB
    dsimp only [mFs] at hB
    refine r_iload_n (pc := 88) dX11_closes_88 rfl ?_
    refine rj_if_eq (pc := 89) (tgt := 98) dX11_closes_89 (by decide) (by first | assumption | exact b01_r | exact bz_r | omega | (constructor <;> omega) | exact hM _ | exact hPo _ | exact hTa _ | exact hRo _) (fun c_89 => ?_) (fun c_89 => ?_)
    · try simp only [b01_0, bz_0, Classical.not_not] at c_89
      rw [if_pos c_89]
      exact L_closed hB0 ht h2
    · try simp only [b01_0, bz_0, Classical.not_not] at c_89
      refine r_aload_n (pc := 92) dX11_closes_92 rfl (by first | rfl | exact isRefV_rf _) ?_
      refine r_iload_n (pc := 93) dX11_closes_93 rfl ?_
      refine r_iload_n (pc := 94) dX11_closes_94 rfl ?_
      refine r_callV2 (pc := 95) dX11_closes_95 qX11_gathers kX11_142 vX11_gathers (by exact isM.gx (by assumption)) rfl rfl (Nat.le_of_ble_eq_true rfl) (m_gathers _ hB0 hs h5.1 h5.2 h4.1 h4.2) (fun v_95 h_95 q_95 => ?_)
      obtain ⟨rfl, hB_95, S_95⟩ := q_95
      rw [if_neg c_89]
      have g2 : gathersM m2 f14 f t 2 = m2 2 := by unfold gathersM; split <;> (rw [updI_n (by omega), updI_n (by omega), updI_n (by omega)]; try rw [updI_n (by omega)])
      refine (L_closed (D := D + 2) hB_95 ht (by rw [g2]; exact h2)).mono (fun v h' q => ⟨q.1, q.2.1, S_95.trans q.2.2⟩)
  intro k
  induction k with
  | zero =>
    intro m p h hB hp hL
    obtain ⟨hEp, rfl, rfl⟩ := hL
    have hB0 := hB
    dsimp only [mFs] at hB
    refine r_iload_n (pc := 48) dX11_closes_48 rfl ?_
    refine rj_if_ne (pc := 49) (tgt := 88) dX11_closes_49 (by decide) (by first | assumption | exact b01_r | exact bz_r | omega | (constructor <;> omega) | exact hM _ | exact hPo _ | exact hTa _ | exact hRo _) (fun c_49 => ?_) (fun c_49 => ?_)
    · try simp only [b01_0, bz_0, Classical.not_not] at c_49
      first | (exfalso; omega) | exact absurd trivial ‹¬ True›
    · try simp only [b01_0, bz_0, Classical.not_not] at c_49
      refine r_iload_n (pc := 52) dX11_closes_52 rfl ?_
      refine r_iload (pc := 53) dX11_closes_53 rfl ?_
      refine rj_icmp_ge (pc := 55) (tgt := 88) dX11_closes_55 (by decide) (by first | assumption | exact b01_r | exact bz_r | omega | (constructor <;> omega) | exact hM _ | exact hPo _ | exact hTa _ | exact hRo _) (by first | assumption | exact b01_r | exact bz_r | omega | (constructor <;> omega) | exact hM _ | exact hPo _ | exact hTa _ | exact hRo _) (fun c_55 => ?_) (fun c_55 => ?_)
      · exact fin h p hB0
      · exfalso; omega
  | succ k ih =>
    intro m p h hB hp hL
    have hB0 := hB
    rcases hL with ⟨hEp, rfl, rfl⟩ | ⟨hpE, f1, m1, hdo, hf1, hL⟩
    · dsimp only [mFs] at hB
      refine r_iload_n (pc := 48) dX11_closes_48 rfl ?_
      refine rj_if_ne (pc := 49) (tgt := 88) dX11_closes_49 (by decide) (by first | assumption | exact b01_r | exact bz_r | omega | (constructor <;> omega) | exact hM _ | exact hPo _ | exact hTa _ | exact hRo _) (fun c_49 => ?_) (fun c_49 => ?_)
      · try simp only [b01_0, bz_0, Classical.not_not] at c_49
        first | (exfalso; omega) | exact absurd trivial ‹¬ True›
      · try simp only [b01_0, bz_0, Classical.not_not] at c_49
        refine r_iload_n (pc := 52) dX11_closes_52 rfl ?_
        refine r_iload (pc := 53) dX11_closes_53 rfl ?_
        refine rj_icmp_ge (pc := 55) (tgt := 88) dX11_closes_55 (by decide) (by first | assumption | exact b01_r | exact bz_r | omega | (constructor <;> omega) | exact hM _ | exact hPo _ | exact hTa _ | exact hRo _) (by first | assumption | exact b01_r | exact bz_r | omega | (constructor <;> omega) | exact hM _ | exact hPo _ | exact hTa _ | exact hRo _) (fun c_55 => ?_) (fun c_55 => ?_)
        · exact fin h p hB0
        · exfalso; omega
    · dsimp only [mFs] at hB
      refine r_iload_n (pc := 48) dX11_closes_48 rfl ?_
      refine rj_if_ne (pc := 49) (tgt := 88) dX11_closes_49 (by decide) (by first | assumption | exact b01_r | exact bz_r | omega | (constructor <;> omega) | exact hM _ | exact hPo _ | exact hTa _ | exact hRo _) (fun c_49 => ?_) (fun c_49 => ?_)
      · try simp only [b01_0, bz_0, Classical.not_not] at c_49
        first | (exfalso; omega) | exact absurd trivial ‹¬ True›
      · try simp only [b01_0, bz_0, Classical.not_not] at c_49
        refine r_iload_n (pc := 52) dX11_closes_52 rfl ?_
        refine r_iload (pc := 53) dX11_closes_53 rfl ?_
        refine rj_icmp_ge (pc := 55) (tgt := 88) dX11_closes_55 (by decide) (by first | assumption | exact b01_r | exact bz_r | omega | (constructor <;> omega) | exact hM _ | exact hPo _ | exact hTa _ | exact hRo _) (by first | assumption | exact b01_r | exact bz_r | omega | (constructor <;> omega) | exact hM _ | exact hPo _ | exact hTa _ | exact hRo _) (fun c_55 => ?_) (fun c_55 => ?_)
        · first | (exfalso; omega) | exact absurd trivial ‹¬ True›
        · refine r_aload_n (pc := 58) dX11_closes_58 rfl (by first | rfl | exact isRefV_rf _) ?_
          refine r_iload_n (pc := 59) dX11_closes_59 rfl ?_
          refine r_aload_n (pc := 60) dX11_closes_60 rfl (by first | rfl | exact isRefV_rf _) ?_
          refine rm_getf (pc := 61) dX11_closes_61 fX11_11 (by assumption) rfl ?_
          refine r_iload_n (pc := 64) dX11_closes_64 rfl ?_
          refine rj_iconst (pc := 65) dX11_closes_65 ?_
          refine rj_iconst (pc := 66) dX11_closes_66 ?_
          refine r_callS3 (pc := 67) dX11_closes_67 qX11_ofThing kX11_54 sX11_ofThing (Nat.le_of_ble_eq_true rfl) (m_ofThing _) (fun v_67 h_67 q_67 => ?_)
          obtain ⟨rfl, rfl⟩ := q_67
          refine rj_iald (pc := 70) (j := 259 + 14 * t) dX11_closes_70 (by first | exact isM.g0 (by assumption) | exact isM.g3 (by assumption) | exact isM.g4 (by assumption) | exact isM.g8 (by assumption) | exact isM.g7 (by assumption) | exact isM.g6 (by assumption) | exact isM.g5 (by assumption) | exact isM.g1 (by assumption) | exact isM.g2 (by assumption)) (by first | assumption | exact b01_r | exact bz_r | omega | (constructor <;> omega) | exact hM _ | exact hPo _ | exact hTa _ | exact hRo _) (by first | assumption | exact b01_r | exact bz_r | omega | (constructor <;> omega) | exact hM _ | exact hPo _ | exact hTa _ | exact hRo _) (by first | assumption | exact b01_r | exact bz_r | omega | (constructor <;> omega) | exact hM _ | exact hPo _ | exact hTa _ | exact hRo _) (by omega) ?_
          refine r_callV2 (pc := 71) dX11_closes_71 qX11_does kX11_136 vX11_does (by exact isM.gx (by assumption)) rfl rfl (Nat.le_of_ble_eq_true rfl) (m_does (s2 := m (259 + 14 * t)) hD hPo hcl hB0 hdo) (fun v_71 h_71 q_71 => ?_)
          obtain ⟨rfl, hB_71, S_71⟩ := q_71
          refine r_istore_n (pc := 74) dX11_closes_74 (Nat.le_of_ble_eq_true rfl) ?_
          dsimp only [lsSt, List.set, mLs, mEnt]
          refine r_aload_n (pc := 75) dX11_closes_75 rfl (by first | rfl | exact isRefV_rf _) ?_
          refine r_iload_n (pc := 76) dX11_closes_76 rfl ?_
          refine r_iload (pc := 77) dX11_closes_77 rfl ?_
          refine r_callV2 (pc := 79) dX11_closes_79 qX11_behind kX11_139 vX11_behind (by exact isM.gx (by assumption)) rfl rfl (Nat.le_of_ble_eq_true rfl) (m_behind _ hB_71 hPo (p := p) (E := E) (by omega) hE) (fun v_79 h_79 q_79 => ?_)
          obtain ⟨rfl, rfl⟩ := q_79
          refine rj_iconst (pc := 82) dX11_closes_82 ?_
          refine rj_iadd (pc := 83) dX11_closes_83 ?_
          refine r_istore_n (pc := 84) dX11_closes_84 (Nat.le_of_ble_eq_true rfl) ?_
          dsimp only [lsSt, List.set, mLs, mEnt]
          refine r_goto (pc := 85) (tgt := 48) dX11_closes_85 (by decide) ?_
          rcases hL with ⟨hne, rfl, rfl⟩ | ⟨rfl, hL⟩
          · have hb := behL_r (pool := pool) (E - p) p 0
            refine RUN.mono (L_out (G := G) (l := l) (D := D + 3) hf1 hne ?_) (fun v h' q => q)
            exact (fin h_79 (behL pool (E - p) p 0 + 1) hB_71).mono (fun v h' q => ⟨q.1, q.2.1, S_71.trans q.2.2⟩)
          · have hb := behL_r (pool := pool) (E - p) p 0
            exact (ih m1 (behL pool (E - p) p 0 + 1) _ hB_71 (by omega) hL).mono (fun v h' q => ⟨q.1, q.2.1, S_71.trans q.2.2⟩)
end mg_69
