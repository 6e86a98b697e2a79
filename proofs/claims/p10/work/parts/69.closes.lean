/-! ===== the reference: closing a thing ===== -/
set_option maxHeartbeats 4000000 in
set_option maxRecDepth 100000 in
theorem L_closed {G : mG} {l : Launch} {D : Nat} {h : mH} {x s : Nat} {f4 f6 f8 f9 f10 f11 f12 f13 f14 f16 f18 : Int} {m kp was pool tape pln pap rwd rw : Nat → Int}(hB : isM h x (mFs x f4 f6 f8 f9 f10 f11 f12 f13 f14 f16 f18 s) m kp was pool tape pln pap rwd rw) {t : Nat} (ht : t ≤ 89) (h2 : 0 ≤ m 2 ∧ m 2 ≤ 89) {f p e : Int} : RUN G l (D + 1) mX11_closes 98 [some (.ref x), some (.int (J (t : Int))), some (.int (J f)), some (.int (J p)), some (.int (J e))] [] h (fun v h' => v = none ∧ isM h' x (mFs x f4 f6 f8 f9 f10 f11 f12 f13 f14 f16 f18 s) (closedM m t) kp was pool tape pln pap rwd rw ∧ Same (mBlk x) h h') := by
  dsimp only [mFs] at hB
  have e1 : updI m (258 + 14 * t) 2 2 = m 2 := updI_n (by omega)
  have e2 : updI (updI m (258 + 14 * t) 2) (264 + 14 * t) (m 2) 2 = m 2 := (updI_n (by omega)).trans e1
  have e3 : updI (updI (updI m (258 + 14 * t) 2) (264 + 14 * t) (m 2)) (1518 + m 2).toNat t 2 = m 2 := (updI_n (by omega)).trans e2
  refine r_aload_n (pc := 98) dX11_closes_98 rfl (by first | rfl | exact isRefV_rf _) ?_
  refine rm_getf (pc := 99) dX11_closes_99 fX11_11 (by assumption) rfl ?_
  refine r_iload_n (pc := 102) dX11_closes_102 rfl ?_
  refine rj_iconst (pc := 103) dX11_closes_103 ?_
  refine rj_iconst (pc := 104) dX11_closes_104 ?_
  refine r_callS3 (pc := 105) dX11_closes_105 qX11_ofThing kX11_54 sX11_ofThing (Nat.le_of_ble_eq_true rfl) (m_ofThing D) (fun v_105 h_105 q_105 => ?_)
  obtain ⟨rfl, rfl⟩ := q_105
  refine rj_iconst (pc := 108) dX11_closes_108 ?_
  first | refine rm_iast0 (pc := 109) (j := 258 + 14 * t) dX11_closes_109 (by assumption) (by first | assumption | exact b01_r | exact bz_r | omega | (constructor <;> omega) | exact hM _ | exact hPo _ | exact hTa _ | exact hRo _) (by first | assumption | exact b01_r | exact bz_r | omega | (constructor <;> omega) | exact hM _ | exact hPo _ | exact hTa _ | exact hRo _) (by first | assumption | exact b01_r | exact bz_r | omega | (constructor <;> omega) | exact hM _ | exact hPo _ | exact hTa _ | exact hRo _) (by omega) (fun h_109 hB_109 hS_109 => ?_)
  refine r_aload_n (pc := 110) dX11_closes_110 rfl (by first | rfl | exact isRefV_rf _) ?_
  refine rm_getf (pc := 111) dX11_closes_111 fX11_11 (by assumption) rfl ?_
  refine r_iload_n (pc := 114) dX11_closes_114 rfl ?_
  refine rj_bipush (pc := 115) dX11_closes_115 (by decide +kernel) ?_
  refine rj_iconst (pc := 117) dX11_closes_117 ?_
  refine r_callS3 (pc := 118) dX11_closes_118 qX11_ofThing kX11_54 sX11_ofThing (Nat.le_of_ble_eq_true rfl) (m_ofThing D) (fun v_118 h_118 q_118 => ?_)
  obtain ⟨rfl, rfl⟩ := q_118
  refine r_aload_n (pc := 121) dX11_closes_121 rfl (by first | rfl | exact isRefV_rf _) ?_
  refine rm_getf (pc := 122) dX11_closes_122 fX11_11 (by assumption) rfl ?_
  refine rj_iconst (pc := 125) dX11_closes_125 ?_
  refine rj_iald (pc := 126) (j := 2) dX11_closes_126 (by first | exact isM.g0 (by assumption) | exact isM.g3 (by assumption) | exact isM.g4 (by assumption) | exact isM.g8 (by assumption) | exact isM.g7 (by assumption) | exact isM.g6 (by assumption) | exact isM.g5 (by assumption) | exact isM.g1 (by assumption) | exact isM.g2 (by assumption)) (by first | assumption | exact b01_r | exact bz_r | omega | (constructor <;> omega) | exact hM _ | exact hPo _ | exact hTa _ | exact hRo _) (by first | assumption | exact b01_r | exact bz_r | omega | (constructor <;> omega) | exact hM _ | exact hPo _ | exact hTa _ | exact hRo _) (by first | assumption | exact b01_r | exact bz_r | omega | (constructor <;> omega) | exact hM _ | exact hPo _ | exact hTa _ | exact hRo _) rfl ?_
  rw [e1]
  first | refine rm_iast0 (pc := 127) (j := 264 + 14 * t) dX11_closes_127 (by assumption) (by first | assumption | exact b01_r | exact bz_r | omega | (constructor <;> omega) | exact hM _ | exact hPo _ | exact hTa _ | exact hRo _) (by first | assumption | exact b01_r | exact bz_r | omega | (constructor <;> omega) | exact hM _ | exact hPo _ | exact hTa _ | exact hRo _) (by first | assumption | exact b01_r | exact bz_r | omega | (constructor <;> omega) | exact hM _ | exact hPo _ | exact hTa _ | exact hRo _) (by omega) (fun h_127 hB_127 hS_127 => ?_)
  refine r_aload_n (pc := 128) dX11_closes_128 rfl (by first | rfl | exact isRefV_rf _) ?_
  refine rm_getf (pc := 129) dX11_closes_129 fX11_11 (by assumption) rfl ?_
  refine rj_sipush (pc := 132) dX11_closes_132 (by decide +kernel) ?_
  refine r_aload_n (pc := 135) dX11_closes_135 rfl (by first | rfl | exact isRefV_rf _) ?_
  refine rm_getf (pc := 136) dX11_closes_136 fX11_11 (by assumption) rfl ?_
  refine rj_iconst (pc := 139) dX11_closes_139 ?_
  refine rj_iald (pc := 140) (j := 2) dX11_closes_140 (by first | exact isM.g0 (by assumption) | exact isM.g3 (by assumption) | exact isM.g4 (by assumption) | exact isM.g8 (by assumption) | exact isM.g7 (by assumption) | exact isM.g6 (by assumption) | exact isM.g5 (by assumption) | exact isM.g1 (by assumption) | exact isM.g2 (by assumption)) (by first | assumption | exact b01_r | exact bz_r | omega | (constructor <;> omega) | exact hM _ | exact hPo _ | exact hTa _ | exact hRo _) (by first | assumption | exact b01_r | exact bz_r | omega | (constructor <;> omega) | exact hM _ | exact hPo _ | exact hTa _ | exact hRo _) (by first | assumption | exact b01_r | exact bz_r | omega | (constructor <;> omega) | exact hM _ | exact hPo _ | exact hTa _ | exact hRo _) rfl ?_
  rw [e2]
  refine rj_iadd (pc := 141) dX11_closes_141 ?_
  refine r_iload_n (pc := 142) dX11_closes_142 rfl ?_
  first | refine rm_iast0 (pc := 143) (j := (1518 + m 2).toNat) dX11_closes_143 (by assumption) (by first | assumption | exact b01_r | exact bz_r | omega | (constructor <;> omega) | exact hM _ | exact hPo _ | exact hTa _ | exact hRo _) (by first | assumption | exact b01_r | exact bz_r | omega | (constructor <;> omega) | exact hM _ | exact hPo _ | exact hTa _ | exact hRo _) (by first | assumption | exact b01_r | exact bz_r | omega | (constructor <;> omega) | exact hM _ | exact hPo _ | exact hTa _ | exact hRo _) (by omega) (fun h_143 hB_143 hS_143 => ?_)
  refine r_aload_n (pc := 144) dX11_closes_144 rfl (by first | rfl | exact isRefV_rf _) ?_
  refine rm_getf (pc := 145) dX11_closes_145 fX11_11 (by assumption) rfl ?_
  refine rj_iconst (pc := 148) dX11_closes_148 ?_
  refine r_dup2 (pc := 149) dX11_closes_149 rfl rfl ?_
  refine rj_iald (pc := 150) (j := 2) dX11_closes_150 (by first | exact isM.g0 (by assumption) | exact isM.g3 (by assumption) | exact isM.g4 (by assumption) | exact isM.g8 (by assumption) | exact isM.g7 (by assumption) | exact isM.g6 (by assumption) | exact isM.g5 (by assumption) | exact isM.g1 (by assumption) | exact isM.g2 (by assumption)) (by first | assumption | exact b01_r | exact bz_r | omega | (constructor <;> omega) | exact hM _ | exact hPo _ | exact hTa _ | exact hRo _) (by first | assumption | exact b01_r | exact bz_r | omega | (constructor <;> omega) | exact hM _ | exact hPo _ | exact hTa _ | exact hRo _) (by first | assumption | exact b01_r | exact bz_r | omega | (constructor <;> omega) | exact hM _ | exact hPo _ | exact hTa _ | exact hRo _) (by omega) ?_
  rw [e3]
  refine rj_iconst (pc := 151) dX11_closes_151 ?_
  refine rj_iadd (pc := 152) dX11_closes_152 ?_
  first | refine rm_iast0 (pc := 153) (j := 2) dX11_closes_153 (by assumption) (by first | assumption | exact b01_r | exact bz_r | omega | (constructor <;> omega) | exact hM _ | exact hPo _ | exact hTa _ | exact hRo _) (by first | assumption | exact b01_r | exact bz_r | omega | (constructor <;> omega) | exact hM _ | exact hPo _ | exact hTa _ | exact hRo _) (by first | assumption | exact b01_r | exact bz_r | omega | (constructor <;> omega) | exact hM _ | exact hPo _ | exact hTa _ | exact hRo _) (by omega) (fun h_153 hB_153 hS_153 => ?_)
  refine r_return (pc := 154) dX11_closes_154 rfl ?_
  exact ⟨rfl, hB_153, ((hS_109.trans hS_127).trans hS_143).trans hS_153⟩
theorem behL_r {pool : Nat → Int} : ∀ (n p : Nat) (u : Int), p ≤ behL pool n p u ∧ behL pool n p u ≤ p + n
  | 0, p, u => by unfold behL; omega
  | n + 1, p, u => by
    have h := behL_r (pool := pool) n (p + 1) (u + brk (pool p))
    unfold behL
    split <;> omega
set_option maxHeartbeats 4000000 in
set_option maxRecDepth 100000 in
theorem L_out {G : mG} {l : Launch} {D : Nat} {h : mH} {f1 : Int} {v0 v1 v3 v4 : Option Value} {Q : Option Value → mH → Prop} (hf1 : InR f1) (hne : ¬ f1 = 0) (K : RUN G l D mX11_closes 88 [v0, v1, some (.int (J f1)), v3, v4] [] h Q) : RUN G l D mX11_closes 48 [v0, v1, some (.int (J f1)), v3, v4] [] h Q := by
  refine r_iload_n (pc := 48) dX11_closes_48 rfl ?_
  refine rj_if_ne (pc := 49) (tgt := 88) dX11_closes_49 (by decide) (by first | assumption | exact b01_r | exact bz_r | omega | (constructor <;> omega) | exact hM _ | exact hPo _ | exact hTa _ | exact hRo _) (fun c_49 => ?_) (fun c_49 => ?_)
  · try simp only [b01_0, bz_0, Classical.not_not] at c_49
    exact K
  · try simp only [b01_0, bz_0, Classical.not_not] at c_49
    exfalso; omega
set_option maxHeartbeats 4000000 in
set_option maxRecDepth 100000 in
theorem L_closes {G : mG} {l : Launch} {D N : Nat} (hD : 5 ≤ D) {x s : Nat} {f4 f6 f8 f9 f10 f11 f12 f13 f14 f16 f18 : Int} {kp was pool tape pln pap rwd rw : Nat → Int} (hPo : ∀ q, InR (pool q)) (hs : InR f14) (hcl : ∀ (m1 m2 : Nat → Int) (t : Nat) (h : mH), isM h x (mFs x f4 f6 f8 f9 f10 f11 f12 f13 f14 f16 f18 s) m1 kp was pool tape pln pap rwd rw → closesR pool f14 N m1 t m2 → RUNM G l D mX11_closes [.ref x, .int (J (t : Int))] h (fun v h' => v = none ∧ isM h' x (mFs x f4 f6 f8 f9 f10 f11 f12 f13 f14 f16 f18 s) m2 kp was pool tape pln pap rwd rw ∧ Same (mBlk x) h h')) {t E : Nat} (ht : t ≤ 89) (hE : E ≤ 12342) {f : Int} {m2 : Nat → Int} (hf : InR f) (h2 : 0 ≤ m2 2 ∧ m2 2 ≤ 89) (h4 : 0 ≤ m2 4 ∧ m2 4 ≤ 119) (h5 : 0 ≤ m2 5 ∧ m2 5 ≤ 119) : ∀ (k : Nat) (m : Nat → Int) (p : Nat) (h : mH), isM h x (mFs x f4 f6 f8 f9 f10 f11 f12 f13 f14 f16 f18 s) m kp was pool tape pln pap rwd rw → (p ≤ 12343) → loopR pool (doesR pool (closesR pool f14 N)) t E k m p f m2 → RUN G l (D + 3) mX11_closes 48 [some (.ref x), some (.int (J (t : Int))), some (.int (J 0)), some (.int (J (p : Int))), some (.int (J (E : Int)))] [] h (fun v h' => v = none ∧ isM h' x (mFs x f4 f6 f8 f9 f10 f11 f12 f13 f14 f16 f18 s) (closedM (if f = 0 then m2 else gathersM m2 f14 f t) t) kp was pool tape pln pap rwd rw ∧ Same (mBlk x) h h') := by
  have fin : ∀ (h : mH) (p : Nat), isM h x (mFs x f4 f6 f8 f9 f10 f11 f12 f13 f14 f16 f18 s) m2 kp was pool tape pln pap rwd rw → RUN G l (D + 3) mX11_closes 88 [some (.ref x), some (.int (J (t : Int))), some (.int (J f)), some (.int (J (p : Int))), some (.int (J (E : Int)))] [] h (fun v h' => v = none ∧ isM h' x (mFs x f4 f6 f8 f9 f10 f11 f12 f13 f14 f16 f18 s) (closedM (if f = 0 then m2 else gathersM m2 f14 f t) t) kp was pool tape pln pap rwd rw ∧ Same (mBlk x) h h') := by
    intro h p hB
    have hB0 := hB
    dsimp only [mFs] at hB
    refine r_iload_n (pc := 88) dX11_closes_88 rfl ?_
    refine rj_if_eq (pc := 89) (tgt := 98) dX11_closes_89 (by decide) (by first | assumption | exact b01_r | exact bz_r | omega | (constructor <;> omega) | exact hM _ | exact hPo _ | exact hTa _ | exact hRo _) (fun c_89 => ?_) (fun c_89 => ?_)
    · try simp only [b01_0, bz_0, Classical.not_not] at c_89
      rw [if_pos c_89]
      exact L_closed hB0 ht h2
    · try simp only [b01_0, bz_0, Classical.not_not] at c_89
      refine r_aload_n (pc := 92) dX11_closes_92 rfl (by first | rfl | exact isRefV_rf _) ?_
      refine r_iload_n (pc := 93) dX11_closes_93 rfl ?_
      refine r_iload_n (pc := 94) dX11_closes_94 rfl ?_
      refine r_callV2 (pc := 95) dX11_closes_95 qX11_gathers kX11_142 vX11_gathers (by exact isM.gx (by assumption)) rfl rfl (Nat.le_of_ble_eq_true rfl) (m_gathers _ hB0 hs h5.1 h5.2 h4.1 h4.2) (fun v_95 h_95 q_95 => ?_)
      obtain ⟨rfl, hB_95, S_95⟩ := q_95
      rw [if_neg c_89]
      have g2 : gathersM m2 f14 f t 2 = m2 2 := by unfold gathersM; split <;> (rw [updI_n (by omega), updI_n (by omega), updI_n (by omega)]; try rw [updI_n (by omega)])
      refine (L_closed (D := D + 2) hB_95 ht (by rw [g2]; exact h2)).mono (fun v h' q => ⟨q.1, q.2.1, S_95.trans q.2.2⟩)
  intro k
  induction k with
  | zero =>
    intro m p h hB hp hL
    obtain ⟨hEp, rfl, rfl⟩ := hL
    have hB0 := hB
    dsimp only [mFs] at hB
    refine r_iload_n (pc := 48) dX11_closes_48 rfl ?_
    refine rj_if_ne (pc := 49) (tgt := 88) dX11_closes_49 (by decide) (by first | assumption | exact b01_r | exact bz_r | omega | (constructor <;> omega) | exact hM _ | exact hPo _ | exact hTa _ | exact hRo _) (fun c_49 => ?_) (fun c_49 => ?_)
    · try simp only [b01_0, bz_0, Classical.not_not] at c_49
      first | (exfalso; omega) | exact absurd trivial ‹¬ True›
    · try simp only [b01_0, bz_0, Classical.not_not] at c_49
      refine r_iload_n (pc := 52) dX11_closes_52 rfl ?_
      refine r_iload (pc := 53) dX11_closes_53 rfl ?_
      refine rj_icmp_ge (pc := 55) (tgt := 88) dX11_closes_55 (by decide) (by first | assumption | exact b01_r | exact bz_r | omega | (constructor <;> omega) | exact hM _ | exact hPo _ | exact hTa _ | exact hRo _) (by first | assumption | exact b01_r | exact bz_r | omega | (constructor <;> omega) | exact hM _ | exact hPo _ | exact hTa _ | exact hRo _) (fun c_55 => ?_) (fun c_55 => ?_)
      · exact fin h p hB0
      · exfalso; omega
  | succ k ih =>
    intro m p h hB hp hL
    have hB0 := hB
    rcases hL with ⟨hEp, rfl, rfl⟩ | ⟨hpE, f1, m1, hdo, hf1, hL⟩
    · dsimp only [mFs] at hB
      refine r_iload_n (pc := 48) dX11_closes_48 rfl ?_
      refine rj_if_ne (pc := 49) (tgt := 88) dX11_closes_49 (by decide) (by first | assumption | exact b01_r | exact bz_r | omega | (constructor <;> omega) | exact hM _ | exact hPo _ | exact hTa _ | exact hRo _) (fun c_49 => ?_) (fun c_49 => ?_)
      · try simp only [b01_0, bz_0, Classical.not_not] at c_49
        first | (exfalso; omega) | exact absurd trivial ‹¬ True›
      · try simp only [b01_0, bz_0, Classical.not_not] at c_49
        refine r_iload_n (pc := 52) dX11_closes_52 rfl ?_
        refine r_iload (pc := 53) dX11_closes_53 rfl ?_
        refine rj_icmp_ge (pc := 55) (tgt := 88) dX11_closes_55 (by decide) (by first | assumption | exact b01_r | exact bz_r | omega | (constructor <;> omega) | exact hM _ | exact hPo _ | exact hTa _ | exact hRo _) (by first | assumption | exact b01_r | exact bz_r | omega | (constructor <;> omega) | exact hM _ | exact hPo _ | exact hTa _ | exact hRo _) (fun c_55 => ?_) (fun c_55 => ?_)
        · exact fin h p hB0
        · exfalso; omega
    · dsimp only [mFs] at hB
      refine r_iload_n (pc := 48) dX11_closes_48 rfl ?_
      refine rj_if_ne (pc := 49) (tgt := 88) dX11_closes_49 (by decide) (by first | assumption | exact b01_r | exact bz_r | omega | (constructor <;> omega) | exact hM _ | exact hPo _ | exact hTa _ | exact hRo _) (fun c_49 => ?_) (fun c_49 => ?_)
      · try simp only [b01_0, bz_0, Classical.not_not] at c_49
        first | (exfalso; omega) | exact absurd trivial ‹¬ True›
      · try simp only [b01_0, bz_0, Classical.not_not] at c_49
        refine r_iload_n (pc := 52) dX11_closes_52 rfl ?_
        refine r_iload (pc := 53) dX11_closes_53 rfl ?_
        refine rj_icmp_ge (pc := 55) (tgt := 88) dX11_closes_55 (by decide) (by first | assumption | exact b01_r | exact bz_r | omega | (constructor <;> omega) | exact hM _ | exact hPo _ | exact hTa _ | exact hRo _) (by first | assumption | exact b01_r | exact bz_r | omega | (constructor <;> omega) | exact hM _ | exact hPo _ | exact hTa _ | exact hRo _) (fun c_55 => ?_) (fun c_55 => ?_)
        · first | (exfalso; omega) | exact absurd trivial ‹¬ True›
        · refine r_aload_n (pc := 58) dX11_closes_58 rfl (by first | rfl | exact isRefV_rf _) ?_
          refine r_iload_n (pc := 59) dX11_closes_59 rfl ?_
          refine r_aload_n (pc := 60) dX11_closes_60 rfl (by first | rfl | exact isRefV_rf _) ?_
          refine rm_getf (pc := 61) dX11_closes_61 fX11_11 (by assumption) rfl ?_
          refine r_iload_n (pc := 64) dX11_closes_64 rfl ?_
          refine rj_iconst (pc := 65) dX11_closes_65 ?_
          refine rj_iconst (pc := 66) dX11_closes_66 ?_
          refine r_callS3 (pc := 67) dX11_closes_67 qX11_ofThing kX11_54 sX11_ofThing (Nat.le_of_ble_eq_true rfl) (m_ofThing _) (fun v_67 h_67 q_67 => ?_)
          obtain ⟨rfl, rfl⟩ := q_67
          refine rj_iald (pc := 70) (j := 259 + 14 * t) dX11_closes_70 (by first | exact isM.g0 (by assumption) | exact isM.g3 (by assumption) | exact isM.g4 (by assumption) | exact isM.g8 (by assumption) | exact isM.g7 (by assumption) | exact isM.g6 (by assumption) | exact isM.g5 (by assumption) | exact isM.g1 (by assumption) | exact isM.g2 (by assumption)) (by first | assumption | exact b01_r | exact bz_r | omega | (constructor <;> omega) | exact hM _ | exact hPo _ | exact hTa _ | exact hRo _) (by first | assumption | exact b01_r | exact bz_r | omega | (constructor <;> omega) | exact hM _ | exact hPo _ | exact hTa _ | exact hRo _) (by first | assumption | exact b01_r | exact bz_r | omega | (constructor <;> omega) | exact hM _ | exact hPo _ | exact hTa _ | exact hRo _) (by omega) ?_
          refine r_callV2 (pc := 71) dX11_closes_71 qX11_does kX11_136 vX11_does (by exact isM.gx (by assumption)) rfl rfl (Nat.le_of_ble_eq_true rfl) (m_does (s2 := m (259 + 14 * t)) hD hPo hcl hB0 hdo) (fun v_71 h_71 q_71 => ?_)
          obtain ⟨rfl, hB_71, S_71⟩ := q_71
          refine r_istore_n (pc := 74) dX11_closes_74 (Nat.le_of_ble_eq_true rfl) ?_
          dsimp only [lsSt, List.set, mLs, mEnt]
          refine r_aload_n (pc := 75) dX11_closes_75 rfl (by first | rfl | exact isRefV_rf _) ?_
          refine r_iload_n (pc := 76) dX11_closes_76 rfl ?_
          refine r_iload (pc := 77) dX11_closes_77 rfl ?_
          refine r_callV2 (pc := 79) dX11_closes_79 qX11_behind kX11_139 vX11_behind (by exact isM.gx (by assumption)) rfl rfl (Nat.le_of_ble_eq_true rfl) (m_behind _ hB_71 hPo (p := p) (E := E) (by omega) hE) (fun v_79 h_79 q_79 => ?_)
          obtain ⟨rfl, rfl⟩ := q_79
          refine rj_iconst (pc := 82) dX11_closes_82 ?_
          refine rj_iadd (pc := 83) dX11_closes_83 ?_
          refine r_istore_n (pc := 84) dX11_closes_84 (Nat.le_of_ble_eq_true rfl) ?_
          dsimp only [lsSt, List.set, mLs, mEnt]
          refine r_goto (pc := 85) (tgt := 48) dX11_closes_85 (by decide) ?_
          rcases hL with ⟨hne, rfl, rfl⟩ | ⟨rfl, hL⟩
          · have hb := behL_r (pool := pool) (E - p) p 0
            refine RUN.mono (L_out (G := G) (l := l) (D := D + 3) hf1 hne ?_) (fun v h' q => q)
            exact (fin h_79 (behL pool (E - p) p 0 + 1) hB_71).mono (fun v h' q => ⟨q.1, q.2.1, S_71.trans q.2.2⟩)
          · have hb := behL_r (pool := pool) (E - p) p 0
            exact (ih m1 (behL pool (E - p) p 0 + 1) _ hB_71 (by omega) hL).mono (fun v h' q => ⟨q.1, q.2.1, S_71.trans q.2.2⟩)
set_option maxHeartbeats 4000000 in
set_option maxRecDepth 100000 in
theorem m_closes {G : mG} {l : Launch} {x s : Nat} {f4 f6 f8 f9 f10 f11 f12 f13 f14 f16 f18 : Int} {kp was pool tape pln pap rwd rw : Nat → Int} (hPo : ∀ q, InR (pool q)) (hs : InR f14) : ∀ (N : Nat) (m m' : Nat → Int) (t : Nat) (h : mH), isM h x (mFs x f4 f6 f8 f9 f10 f11 f12 f13 f14 f16 f18 s) m kp was pool tape pln pap rwd rw → closesR pool f14 N m t m' → RUNM G l (3 * N + 6) mX11_closes [.ref x, .int (J (t : Int))] h (fun v h' => v = none ∧ isM h' x (mFs x f4 f6 f8 f9 f10 f11 f12 f13 f14 f16 f18 s) m' kp was pool tape pln pap rwd rw ∧ Same (mBlk x) h h') := by
  intro N
  induction N with
  | zero => intro m m' t h _ q; exact absurd q id
  | succ N ih =>
    intro m m' t h hB hR
    obtain ⟨⟨hM, k0, k1, k2, k3, k4, k5, k7⟩, ht, hR⟩ := hR
    have hB0 := hB
    rw [show 3 * (N + 1) + 6 = 3 * N + 6 + 3 by omega]
    have e258 : (258 + 14 * (t : Int)).toNat = 258 + 14 * t := by omega
    refine RUNM.of (by decide +kernel) (Nat.le_of_ble_eq_true rfl) ?_
    rcases hR with ⟨hh, rfl⟩ | ⟨hh, p, E, k, f, m2, hp, hE, hp2, hE2, hL, hok2, hf, g2, g4, g5, rfl⟩
    · dsimp only [mFs] at hB
      refine r_aload_n (pc := 0) dX11_closes_0 rfl (by first | rfl | exact isRefV_rf _) ?_
      refine r_iload_n (pc := 1) dX11_closes_1 rfl ?_
      refine r_callV1 (pc := 2) dX11_closes_2 qX11_isHeld kX11_119 vX11_isHeld (by exact isM.gx (by assumption)) rfl rfl (Nat.le_of_ble_eq_true rfl) (by have y := m_isHeld (G := G) (l := l) (3 * N + 7) hB0 hM (a := (t : Int)) (by omega) (by omega); rw [e258] at y; exact y) (fun v_2 h_2 q_2 => ?_)
      obtain ⟨rfl, rfl⟩ := q_2
      refine rj_if_ne (pc := 5) (tgt := 9) dX11_closes_5 (by decide) (by first | assumption | exact b01_r | exact bz_r | omega | (constructor <;> omega) | exact hM _ | exact hPo _ | exact hTa _ | exact hRo _) (fun c_5 => ?_) (fun c_5 => ?_)
      · try simp only [b01_0, bz_0, Classical.not_not] at c_5
        exact absurd c_5 hh
      · try simp only [b01_0, bz_0, Classical.not_not] at c_5
        refine r_return (pc := 8) dX11_closes_8 rfl ?_
        exact ⟨rfl, hB0, Same.refl⟩
    · dsimp only [mFs] at hB
      have q1 : updI m (258 + 14 * t) 1 (262 + 14 * t) = p := (updI_n (by omega)).trans hp
      have q2 : updI m (258 + 14 * t) 1 (263 + 14 * t) = E := (updI_n (by omega)).trans hE
      obtain ⟨hM2, -, -, n2, -, n4, n5, -⟩ := hok2
      refine r_aload_n (pc := 0) dX11_closes_0 rfl (by first | rfl | exact isRefV_rf _) ?_
      refine r_iload_n (pc := 1) dX11_closes_1 rfl ?_
      refine r_callV1 (pc := 2) dX11_closes_2 qX11_isHeld kX11_119 vX11_isHeld (by exact isM.gx (by assumption)) rfl rfl (Nat.le_of_ble_eq_true rfl) (by have y := m_isHeld (G := G) (l := l) (3 * N + 7) hB0 hM (a := (t : Int)) (by omega) (by omega); rw [e258] at y; exact y) (fun v_2 h_2 q_2 => ?_)
      obtain ⟨rfl, rfl⟩ := q_2
      refine rj_if_ne (pc := 5) (tgt := 9) dX11_closes_5 (by decide) (by first | assumption | exact b01_r | exact bz_r | omega | (constructor <;> omega) | exact hM _ | exact hPo _ | exact hTa _ | exact hRo _) (fun c_5 => ?_) (fun c_5 => ?_)
      · try simp only [b01_0, bz_0, Classical.not_not] at c_5
        refine r_aload_n (pc := 9) dX11_closes_9 rfl (by first | rfl | exact isRefV_rf _) ?_
        refine rm_getf (pc := 10) dX11_closes_10 fX11_11 (by assumption) rfl ?_
        refine r_iload_n (pc := 13) dX11_closes_13 rfl ?_
        refine rj_iconst (pc := 14) dX11_closes_14 ?_
        refine rj_iconst (pc := 15) dX11_closes_15 ?_
        refine r_callS3 (pc := 16) dX11_closes_16 qX11_ofThing kX11_54 sX11_ofThing (Nat.le_of_ble_eq_true rfl) (m_ofThing _) (fun v_16 h_16 q_16 => ?_)
        obtain ⟨rfl, rfl⟩ := q_16
        refine rj_iconst (pc := 19) dX11_closes_19 ?_
        first | refine rm_iast0 (pc := 20) (j := 258 + 14 * t) dX11_closes_20 (by assumption) (by first | assumption | exact b01_r | exact bz_r | omega | (constructor <;> omega) | exact hM _ | exact hPo _ | exact hTa _ | exact hRo _) (by first | assumption | exact b01_r | exact bz_r | omega | (constructor <;> omega) | exact hM _ | exact hPo _ | exact hTa _ | exact hRo _) (by first | assumption | exact b01_r | exact bz_r | omega | (constructor <;> omega) | exact hM _ | exact hPo _ | exact hTa _ | exact hRo _) (by omega) (fun h_20 hB_20 hS_20 => ?_)
        refine rj_iconst (pc := 21) dX11_closes_21 ?_
        refine r_istore_n (pc := 22) dX11_closes_22 (Nat.le_of_ble_eq_true rfl) ?_
        dsimp only [lsSt, List.set, mLs, mEnt]
        refine r_aload_n (pc := 23) dX11_closes_23 rfl (by first | rfl | exact isRefV_rf _) ?_
        refine rm_getf (pc := 24) dX11_closes_24 fX11_11 (by assumption) rfl ?_
        refine r_iload_n (pc := 27) dX11_closes_27 rfl ?_
        refine rj_iconst (pc := 28) dX11_closes_28 ?_
        refine rj_iconst (pc := 29) dX11_closes_29 ?_
        refine r_callS3 (pc := 30) dX11_closes_30 qX11_ofThing kX11_54 sX11_ofThing (Nat.le_of_ble_eq_true rfl) (m_ofThing _) (fun v_30 h_30 q_30 => ?_)
        obtain ⟨rfl, rfl⟩ := q_30
        refine rj_iald (pc := 33) (j := 262 + 14 * t) dX11_closes_33 (by first | exact isM.g0 (by assumption) | exact isM.g3 (by assumption) | exact isM.g4 (by assumption) | exact isM.g8 (by assumption) | exact isM.g7 (by assumption) | exact isM.g6 (by assumption) | exact isM.g5 (by assumption) | exact isM.g1 (by assumption) | exact isM.g2 (by assumption)) (by first | assumption | exact b01_r | exact bz_r | omega | (constructor <;> omega) | exact hM _ | exact hPo _ | exact hTa _ | exact hRo _) (by first | assumption | exact b01_r | exact bz_r | omega | (constructor <;> omega) | exact hM _ | exact hPo _ | exact hTa _ | exact hRo _) (by first | assumption | exact b01_r | exact bz_r | omega | (constructor <;> omega) | exact hM _ | exact hPo _ | exact hTa _ | exact hRo _) (by omega) ?_
        rw [q1]
        refine r_istore_n (pc := 34) dX11_closes_34 (Nat.le_of_ble_eq_true rfl) ?_
        dsimp only [lsSt, List.set, mLs, mEnt]
        refine r_aload_n (pc := 35) dX11_closes_35 rfl (by first | rfl | exact isRefV_rf _) ?_
        refine rm_getf (pc := 36) dX11_closes_36 fX11_11 (by assumption) rfl ?_
        refine r_iload_n (pc := 39) dX11_closes_39 rfl ?_
        refine rj_iconst (pc := 40) dX11_closes_40 ?_
        refine rj_iconst (pc := 41) dX11_closes_41 ?_
        refine r_callS3 (pc := 42) dX11_closes_42 qX11_ofThing kX11_54 sX11_ofThing (Nat.le_of_ble_eq_true rfl) (m_ofThing _) (fun v_42 h_42 q_42 => ?_)
        obtain ⟨rfl, rfl⟩ := q_42
        refine rj_iald (pc := 45) (j := 263 + 14 * t) dX11_closes_45 (by first | exact isM.g0 (by assumption) | exact isM.g3 (by assumption) | exact isM.g4 (by assumption) | exact isM.g8 (by assumption) | exact isM.g7 (by assumption) | exact isM.g6 (by assumption) | exact isM.g5 (by assumption) | exact isM.g1 (by assumption) | exact isM.g2 (by assumption)) (by first | assumption | exact b01_r | exact bz_r | omega | (constructor <;> omega) | exact hM _ | exact hPo _ | exact hTa _ | exact hRo _) (by first | assumption | exact b01_r | exact bz_r | omega | (constructor <;> omega) | exact hM _ | exact hPo _ | exact hTa _ | exact hRo _) (by first | assumption | exact b01_r | exact bz_r | omega | (constructor <;> omega) | exact hM _ | exact hPo _ | exact hTa _ | exact hRo _) (by omega) ?_
        rw [q2]
        refine r_istore (pc := 46) dX11_closes_46 (Nat.le_of_ble_eq_true rfl) ?_
        dsimp only [lsSt, List.set, mLs, mEnt]
        exact (L_closes (D := 3 * N + 6) (by omega) hPo hs ih ht hE2 hf ⟨n2.1, g2⟩ ⟨n4.1, g4⟩ ⟨n5.1, g5⟩ k _ p _ hB_20 (by omega) hL).mono (fun v h' q => ⟨q.1, q.2.1, hS_20.trans q.2.2⟩)
      · try simp only [b01_0, bz_0, Classical.not_not] at c_5
        exact absurd hh c_5
