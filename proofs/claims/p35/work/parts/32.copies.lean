/-! ===== contracts of the reference: copies; a step a ===== -/
def cpF (f g : Nat → Int) (k : Nat) : Nat → Int := fun q => if q < k then f q else g q
theorem cpF_0 (f g : Nat → Int) : cpF f g 0 = g := by funext q; simp [cpF]
theorem cpF_s (f g : Nat → Int) (k : Nat) : updI (cpF f g k) k (f k) = cpF f g (k + 1) := by
  funext q
  unfold updI cpF
  by_cases h : q = k
  · subst h; simp
  · by_cases h2 : q < k
    · simp [h, h2, Nat.lt_succ_of_lt h2]
    · have h3 : ¬ q < k + 1 := by omega
      simp [h, h2, h3]
set_option maxHeartbeats 4000000 in
set_option maxRecDepth 100000 in
theorem L_copies {G : mG} {l : Launch} (d : Nat) {b0 b1 : Nat} {f g : Nat → Int} (hne : b0 ≠ b1) : ∀ (n k : Nat) (h : mH), hGet h b0 = some (.inr (.inl (2928, fun q => J (f q)))) → hGet h b1 = some (.inr (.inl (2928, fun q => J (cpF f g k q)))) → h.1 ≤ b1 → k + n = 2928 → RUN G l d mX11_copies 2 [some (.ref b0), some (.ref b1), some (.int (J (k : Int)))] [] h (fun v h' => v = none ∧ hGet h' b1 = some (.inr (.inl (2928, fun q => J (cpF f g 2928 q)))) ∧ Same (fun b => b = b1) h h') := by
  intro n
  induction n with
  | zero =>
    intro k h hf hg hlo hk
    refine r_iload_n (pc := 2) dX11_copies_2 rfl ?_
    refine rj_sipush (pc := 3) dX11_copies_3 (by decide +kernel) ?_
    refine rj_icmp_ge (pc := 6) (tgt := 21) dX11_copies_6 (by decide) (by first | assumption | exact b01_r | exact bz_r | omega | (constructor <;> omega) | exact hM _ | exact hPo _ | exact hTa _ | exact hRo _) (by first | assumption | exact b01_r | exact bz_r | omega | (constructor <;> omega) | exact hM _ | exact hPo _ | exact hTa _ | exact hRo _) (fun c_6 => ?_) (fun c_6 => ?_)
    · refine r_return (pc := 21) dX11_copies_21 rfl ?_
      have e : k = 2928 := by omega
      subst e
      exact ⟨rfl, hg, Same.refl⟩
    · exfalso; omega
  | succ n ih =>
    intro k h hf hg hlo hk
    refine r_iload_n (pc := 2) dX11_copies_2 rfl ?_
    refine rj_sipush (pc := 3) dX11_copies_3 (by decide +kernel) ?_
    refine rj_icmp_ge (pc := 6) (tgt := 21) dX11_copies_6 (by decide) (by first | assumption | exact b01_r | exact bz_r | omega | (constructor <;> omega) | exact hM _ | exact hPo _ | exact hTa _ | exact hRo _) (by first | assumption | exact b01_r | exact bz_r | omega | (constructor <;> omega) | exact hM _ | exact hPo _ | exact hTa _ | exact hRo _) (fun c_6 => ?_) (fun c_6 => ?_)
    · refine r_return (pc := 21) dX11_copies_21 rfl ?_
      exfalso; omega
    · refine r_aload_n (pc := 9) dX11_copies_9 rfl (by first | rfl | exact isRefV_rf _) ?_
      refine r_iload_n (pc := 10) dX11_copies_10 rfl ?_
      refine r_aload_n (pc := 11) dX11_copies_11 rfl (by first | rfl | exact isRefV_rf _) ?_
      refine r_iload_n (pc := 12) dX11_copies_12 rfl ?_
      refine rj_iald (pc := 13) (j := k) dX11_copies_13 hf (by constructor <;> omega) (by omega) (by omega) (by omega) ?_
      refine rj_iast (pc := 14) dX11_copies_14 hg hlo (by constructor <;> omega) (by omega) (by omega) ?_
      rw [show ((k : Nat) : Int).toNat = k from rfl, cpF_s]
      refine rj_iinc (pc := 15) dX11_copies_15 (Nat.le_of_ble_eq_true rfl) rfl ?_
      dsimp only [lsSt, List.set, mLs, mEnt]
      refine r_goto (pc := 18) (tgt := 2) dX11_copies_18 (by decide) ?_
      have z := ih (k + 1) _ (hGet_put_ne hne hf) hGet_put_self hlo (by omega)
      exact z.mono (fun v h' g => ⟨g.1, g.2.1, ((Same.refl (P := fun b => b = b1)).put (rfl : b1 = b1)).trans g.2.2⟩)
set_option maxHeartbeats 4000000 in
set_option maxRecDepth 100000 in
theorem m_copies {G : mG} {l : Launch} (d : Nat) {h : mH} {b0 b1 : Nat} {f g : Nat → Int} (hne : b0 ≠ b1) (hf : hGet h b0 = some (.inr (.inl (2928, fun q => J (f q))))) (hg : hGet h b1 = some (.inr (.inl (2928, fun q => J (g q))))) (hlo : h.1 ≤ b1) : RUNM G l d mX11_copies [.ref b0, .ref b1] h (fun v h' => v = none ∧ hGet h' b1 = some (.inr (.inl (2928, fun q => J (cpF f g 2928 q)))) ∧ Same (fun b => b = b1) h h') := by
  refine RUNM.of (by decide +kernel) (Nat.le_of_ble_eq_true rfl) ?_
  refine rj_iconst (pc := 0) dX11_copies_0 ?_
  refine r_istore_n (pc := 1) dX11_copies_1 (Nat.le_of_ble_eq_true rfl) ?_
  dsimp only [lsSt, List.set, mLs, mEnt]
  exact L_copies d hne 2928 0 h hf (by rw [cpF_0]; exact hg) hlo rfl
def brL (pool : Nat → Int) : Nat → Nat → Int → Nat
  | 0, to, _ => to
  | n + 1, to, u => if 0 < u then brL pool n (to + 1) (u + brk (pool to)) else to
def brStop (pool : Nat → Int) : Nat → Nat → Int → Prop
  | 0, _, u => ¬ 0 < u
  | n + 1, to, u => 0 < u → brStop pool n (to + 1) (u + brk (pool to))
def ftF (pool : Nat → Int) (n e : Nat) : Int × Int := if pool e = 123 then ((e : Int) + 1, (brL pool (n + 1) (e + 1) 1 : Int) + -1) else ((e : Int), (e : Int))
abbrev openP (m : Nat → Int) (a : Int) : Prop := 0 ≤ a ∧ a ≤ m 0 - 1 ∧ m (18 + 4 * a).toNat = 0
def takenV (m pool : Nat → Int) (N p e : Nat) (a : Int) : Int := if openP m a then (if 0 ≤ hbL m pool p e N 0 then 102 else if N = 90 then 103 else 0) else 101
def takenM (m pool : Nat → Int) (N n p e : Nat) (a : Int) : Nat → Int := if takenV m pool N p e a = 0 then takesM m pool N a p e (ftF pool n e).1 (ftF pool n e).2 else m
theorem hbL_r {m rc : Nat → Int} {fr to : Nat} : ∀ n t : Nat, -5 ≤ hbL m rc fr to n t ∧ hbL m rc fr to n t ≤ t + n
  | 0, t => by unfold hbL; omega
  | n + 1, t => by
    have h := hbL_r (m := m) (rc := rc) (fr := fr) (to := to) n (t + 1)
    unfold hbL
    split <;> omega
theorem neL_r (pool : Nat → Int) : ∀ n k : Nat, k ≤ neL pool n k ∧ neL pool n k ≤ k + n
  | 0, k => ⟨Nat.le_refl _, Nat.le_refl _⟩
  | n + 1, k => by
    have h := neL_r pool n (k + 1)
    unfold neL
    split <;> omega
set_option maxHeartbeats 4000000 in
set_option maxRecDepth 100000 in
theorem L_taken {G : mG} {l : Launch} (d : Nat) {h : mH} {x s : Nat} {f4 f6 f8 f9 f10 f11 f12 f13 f14 f16 f18 : Int} {m kp was pool tape pln pap rwd rw : Nat → Int}(hB : isM h x (mFs x f4 f6 f8 f9 f10 f11 f12 f13 f14 f16 f18 s) m kp was pool tape pln pap rwd rw) (hM : ∀ q, InR (m q)) (hPo : ∀ q, InR (pool q)) {N : Nat} (hN : m 1 = (N : Int)) (hcap : N ≤ 90) (hC : 0 ≤ m 0 ∧ m 0 ≤ 60) (h7 : ∀ t, t < N → m (261 + 14 * t) ≤ 7) {p n : Nat} {a : Int} (ha : InR a) {e : Nat} (he : p ≤ e) (he2 : e ≤ p + 7) (hp : p + 8 ≤ 12342) (hN2 : N ≠ 90) {F : Int} : ∀ (n to : Nat) (u : Int), brStop pool n to u → to + n ≤ 12341 → -20000 ≤ u - n → u + n ≤ 20000 → RUN G l (d + 4) mX11_taken 76 [some (.ref x), some (.int (J (p : Int))), some (.int (J a)), some (.int (J (e : Int))), some (.int (J F)), some (.int (J (to : Int))), some (.int (J u))] [] h (fun v h' => v = some (.int (J 0)) ∧ isM h' x (mFs x f4 f6 f8 f9 f10 f11 f12 f13 f14 f16 f18 s) (takesM m pool N a p e F ((brL pool (n + 1) to u : Int) + -1)) kp was pool tape pln pap rwd rw ∧ Same (mBlk x) h h') := by
  have hB0 := hB
  dsimp only [mFs] at hB
  intro n
  induction n with
  | zero =>
    intro to u hs h1 h2 h3
    unfold brStop at hs
    refine r_iload (pc := 76) dX11_taken_76 rfl ?_
    refine rj_if_le (pc := 78) (tgt := 125) dX11_taken_78 (by decide) (by first | assumption | exact b01_r | exact bz_r | omega | (constructor <;> omega) | exact hM _ | exact hPo _ | exact hTa _ | exact hRo _) (fun c_78 => ?_) (fun c_78 => ?_)
    · refine rj_iinc (pc := 125) dX11_taken_125 (Nat.le_of_ble_eq_true rfl) rfl ?_
      dsimp only [lsSt, List.set, mLs, mEnt]
      refine r_aload_n (pc := 128) dX11_taken_128 rfl (by first | rfl | exact isRefV_rf _) ?_
      refine r_iload_n (pc := 129) dX11_taken_129 rfl ?_
      refine r_aload_n (pc := 130) dX11_taken_130 rfl (by first | rfl | exact isRefV_rf _) ?_
      refine rm_getf (pc := 131) dX11_taken_131 fX11_21 (by assumption) rfl ?_
      refine r_iload_n (pc := 134) dX11_taken_134 rfl ?_
      refine r_iload_n (pc := 135) dX11_taken_135 rfl ?_
      refine r_iload (pc := 136) dX11_taken_136 rfl ?_
      refine r_iload (pc := 138) dX11_taken_138 rfl ?_
      refine r_callV6 (pc := 140) dX11_taken_140 qX11_takes kX11_167 vX11_takes (by exact isM.gx (by assumption)) rfl rfl (Nat.le_of_ble_eq_true rfl) (m_takes (d + 1) hB0 (Or.inr ⟨rfl, rfl, by omega⟩) (by omega) (by omega) hN (by omega)) (fun v_140 h_140 q_140 => ?_)
      obtain ⟨rfl, hB_140, hS_140⟩ := q_140
      refine r_pop (pc := 143) dX11_taken_143 (by first | rfl | (cases ‹Option Nat› <;> rfl)) ?_
      refine rj_iconst (pc := 144) dX11_taken_144 ?_
      refine r_ireturn (pc := 145) .int dX11_taken_145 rfl (by first | rfl | assumption) ?_
      have e1 : brL pool (0 + 1) to u = to := by rw [brL, if_neg (by omega)]
      rw [e1]
      exact ⟨rfl, hB_140, hS_140⟩
    · exact absurd (by omega) hs
  | succ n ih =>
    intro to u hs h1 h2 h3
    unfold brStop at hs
    refine r_iload (pc := 76) dX11_taken_76 rfl ?_
    refine rj_if_le (pc := 78) (tgt := 125) dX11_taken_78 (by decide) (by first | assumption | exact b01_r | exact bz_r | omega | (constructor <;> omega) | exact hM _ | exact hPo _ | exact hTa _ | exact hRo _) (fun c_78 => ?_) (fun c_78 => ?_)
    · refine rj_iinc (pc := 125) dX11_taken_125 (Nat.le_of_ble_eq_true rfl) rfl ?_
      dsimp only [lsSt, List.set, mLs, mEnt]
      refine r_aload_n (pc := 128) dX11_taken_128 rfl (by first | rfl | exact isRefV_rf _) ?_
      refine r_iload_n (pc := 129) dX11_taken_129 rfl ?_
      refine r_aload_n (pc := 130) dX11_taken_130 rfl (by first | rfl | exact isRefV_rf _) ?_
      refine rm_getf (pc := 131) dX11_taken_131 fX11_21 (by assumption) rfl ?_
      refine r_iload_n (pc := 134) dX11_taken_134 rfl ?_
      refine r_iload_n (pc := 135) dX11_taken_135 rfl ?_
      refine r_iload (pc := 136) dX11_taken_136 rfl ?_
      refine r_iload (pc := 138) dX11_taken_138 rfl ?_
      refine r_callV6 (pc := 140) dX11_taken_140 qX11_takes kX11_167 vX11_takes (by exact isM.gx (by assumption)) rfl rfl (Nat.le_of_ble_eq_true rfl) (m_takes (d + 1) hB0 (Or.inr ⟨rfl, rfl, by omega⟩) (by omega) (by omega) hN (by omega)) (fun v_140 h_140 q_140 => ?_)
      obtain ⟨rfl, hB_140, hS_140⟩ := q_140
      refine r_pop (pc := 143) dX11_taken_143 (by first | rfl | (cases ‹Option Nat› <;> rfl)) ?_
      refine rj_iconst (pc := 144) dX11_taken_144 ?_
      refine r_ireturn (pc := 145) .int dX11_taken_145 rfl (by first | rfl | assumption) ?_
      have e1 : brL pool (n + 1 + 1) to u = to := by rw [brL, if_neg (by omega)]
      rw [e1]
      exact ⟨rfl, hB_140, hS_140⟩
    · refine r_iload (pc := 81) dX11_taken_81 rfl ?_
      refine r_aload_n (pc := 83) dX11_taken_83 rfl (by first | rfl | exact isRefV_rf _) ?_
      refine rm_getf (pc := 84) dX11_taken_84 fX11_21 (by assumption) rfl ?_
      refine r_iload (pc := 87) dX11_taken_87 rfl ?_
      refine rj_iald (pc := 89) (j := to) dX11_taken_89 (by first | exact isM.g0 (by assumption) | exact isM.g3 (by assumption) | exact isM.g4 (by assumption) | exact isM.g8 (by assumption) | exact isM.g7 (by assumption) | exact isM.g6 (by assumption) | exact isM.g5 (by assumption) | exact isM.g1 (by assumption) | exact isM.g2 (by assumption)) (by first | assumption | exact b01_r | exact bz_r | omega | (constructor <;> omega) | exact hM _ | exact hPo _ | exact hTa _ | exact hRo _) (by first | assumption | exact b01_r | exact bz_r | omega | (constructor <;> omega) | exact hM _ | exact hPo _ | exact hTa _ | exact hRo _) (by first | assumption | exact b01_r | exact bz_r | omega | (constructor <;> omega) | exact hM _ | exact hPo _ | exact hTa _ | exact hRo _) (by omega) ?_
      refine rj_bipush (pc := 90) dX11_taken_90 (by decide +kernel) ?_
      refine rj_icmp_ne (pc := 92) (tgt := 99) dX11_taken_92 (by decide) (by first | assumption | exact b01_r | exact bz_r | omega | (constructor <;> omega) | exact hM _ | exact hPo _ | exact hTa _ | exact hRo _) (by first | assumption | exact b01_r | exact bz_r | omega | (constructor <;> omega) | exact hM _ | exact hPo _ | exact hTa _ | exact hRo _) (fun c_92 => ?_) (fun c_92 => ?_)
      · refine r_aload_n (pc := 99) dX11_taken_99 rfl (by first | rfl | exact isRefV_rf _) ?_
        refine rm_getf (pc := 100) dX11_taken_100 fX11_21 (by assumption) rfl ?_
        refine r_iload (pc := 103) dX11_taken_103 rfl ?_
        refine rj_iald (pc := 105) (j := to) dX11_taken_105 (by first | exact isM.g0 (by assumption) | exact isM.g3 (by assumption) | exact isM.g4 (by assumption) | exact isM.g8 (by assumption) | exact isM.g7 (by assumption) | exact isM.g6 (by assumption) | exact isM.g5 (by assumption) | exact isM.g1 (by assumption) | exact isM.g2 (by assumption)) (by first | assumption | exact b01_r | exact bz_r | omega | (constructor <;> omega) | exact hM _ | exact hPo _ | exact hTa _ | exact hRo _) (by first | assumption | exact b01_r | exact bz_r | omega | (constructor <;> omega) | exact hM _ | exact hPo _ | exact hTa _ | exact hRo _) (by first | assumption | exact b01_r | exact bz_r | omega | (constructor <;> omega) | exact hM _ | exact hPo _ | exact hTa _ | exact hRo _) (by omega) ?_
        refine rj_bipush (pc := 106) dX11_taken_106 (by decide +kernel) ?_
        refine rj_icmp_ne (pc := 108) (tgt := 115) dX11_taken_108 (by decide) (by first | assumption | exact b01_r | exact bz_r | omega | (constructor <;> omega) | exact hM _ | exact hPo _ | exact hTa _ | exact hRo _) (by first | assumption | exact b01_r | exact bz_r | omega | (constructor <;> omega) | exact hM _ | exact hPo _ | exact hTa _ | exact hRo _) (fun c_108 => ?_) (fun c_108 => ?_)
        · refine rj_iconst (pc := 115) dX11_taken_115 ?_
          refine rj_iadd (pc := 116) dX11_taken_116 ?_
          refine r_istore (pc := 117) dX11_taken_117 (Nat.le_of_ble_eq_true rfl) ?_
          dsimp only [lsSt, List.set, mLs, mEnt]
          refine rj_iinc (pc := 119) dX11_taken_119 (Nat.le_of_ble_eq_true rfl) rfl ?_
          dsimp only [lsSt, List.set, mLs, mEnt]
          refine r_goto (pc := 122) (tgt := 76) dX11_taken_122 (by decide) ?_
          have eb : brk (pool to) = 0 := by unfold brk; rw [if_neg c_92, if_neg c_108]
          have hs2 := hs (by omega)
          rw [eb] at hs2
          have z := ih (to + 1) (u + 0) hs2 (by omega) (by omega) (by omega)
          rw [show brL pool (n + 1 + 1) to u = brL pool (n + 1) (to + 1) (u + 0) by rw [brL, if_pos (by omega), eb]]
          exact z
        · refine rj_iconst (pc := 111) dX11_taken_111 ?_
          refine r_goto (pc := 112) (tgt := 116) dX11_taken_112 (by decide) ?_
          refine rj_iadd (pc := 116) dX11_taken_116 ?_
          refine r_istore (pc := 117) dX11_taken_117 (Nat.le_of_ble_eq_true rfl) ?_
          dsimp only [lsSt, List.set, mLs, mEnt]
          refine rj_iinc (pc := 119) dX11_taken_119 (Nat.le_of_ble_eq_true rfl) rfl ?_
          dsimp only [lsSt, List.set, mLs, mEnt]
          refine r_goto (pc := 122) (tgt := 76) dX11_taken_122 (by decide) ?_
          have eb : brk (pool to) = -1 := by unfold brk; rw [if_neg c_92, if_pos c_108]
          have hs2 := hs (by omega)
          rw [eb] at hs2
          have z := ih (to + 1) (u + -1) hs2 (by omega) (by omega) (by omega)
          rw [show brL pool (n + 1 + 1) to u = brL pool (n + 1) (to + 1) (u + -1) by rw [brL, if_pos (by omega), eb]]
          exact z
      · refine rj_iconst (pc := 95) dX11_taken_95 ?_
        refine r_goto (pc := 96) (tgt := 116) dX11_taken_96 (by decide) ?_
        refine rj_iadd (pc := 116) dX11_taken_116 ?_
        refine r_istore (pc := 117) dX11_taken_117 (Nat.le_of_ble_eq_true rfl) ?_
        dsimp only [lsSt, List.set, mLs, mEnt]
        refine rj_iinc (pc := 119) dX11_taken_119 (Nat.le_of_ble_eq_true rfl) rfl ?_
        dsimp only [lsSt, List.set, mLs, mEnt]
        refine r_goto (pc := 122) (tgt := 76) dX11_taken_122 (by decide) ?_
        have eb : brk (pool to) = 1 := by unfold brk; rw [if_pos c_92]
        have hs2 := hs (by omega)
        rw [eb] at hs2
        have z := ih (to + 1) (u + 1) hs2 (by omega) (by omega) (by omega)
        rw [show brL pool (n + 1 + 1) to u = brL pool (n + 1) (to + 1) (u + 1) by rw [brL, if_pos (by omega), eb]]
        exact z
set_option maxHeartbeats 4000000 in
set_option maxRecDepth 100000 in
theorem m_taken {G : mG} {l : Launch} (d : Nat) {h : mH} {x s : Nat} {f4 f6 f8 f9 f10 f11 f12 f13 f14 f16 f18 : Int} {m kp was pool tape pln pap rwd rw : Nat → Int}(hB : isM h x (mFs x f4 f6 f8 f9 f10 f11 f12 f13 f14 f16 f18 s) m kp was pool tape pln pap rwd rw) (hM : ∀ q, InR (m q)) (hPo : ∀ q, InR (pool q)) {N : Nat} (hN : m 1 = (N : Int)) (hcap : N ≤ 90) (hC : 0 ≤ m 0 ∧ m 0 ≤ 60) (h7 : ∀ t, t < N → m (261 + 14 * t) ≤ 7) {p n : Nat} {a : Int} (ha : InR a) {e : Nat} (he : neL pool 7 p = e) (hp : p + 9 + n ≤ 12341) (hn : n ≤ 12342) (hst : pool e = 123 → brStop pool n (e + 1) 1) : RUNM G l (d + 4) mX11_taken [.ref x, .int (J (p : Int)), .int (J a)] h (fun v h' => v = some (.int (J (takenV m pool N p e a))) ∧ isM h' x (mFs x f4 f6 f8 f9 f10 f11 f12 f13 f14 f16 f18 s) (takenM m pool N n p e a) kp was pool tape pln pap rwd rw ∧ Same (mBlk x) h h') := by
  have hB0 := hB
  dsimp only [mFs] at hB
  refine RUNM.of (by decide +kernel) (Nat.le_of_ble_eq_true rfl) ?_
  have hr := neL_r pool 7 p
  rw [he] at hr
  have r3 := hbL_r (m := m) (rc := pool) (fr := p) (to := e) N 0
  refine r_aload_n (pc := 0) dX11_taken_0 rfl (by first | rfl | exact isRefV_rf _) ?_
  refine r_iload_n (pc := 1) dX11_taken_1 rfl ?_
  refine r_callV1 (pc := 2) dX11_taken_2 qX11_nameEnd kX11_160 vX11_nameEnd (by exact isM.gx (by assumption)) rfl rfl (Nat.le_of_ble_eq_true rfl) (m_nameEnd (d + 2) hB hPo (by omega)) (fun v_2 h_2 q_2 => ?_)
  obtain ⟨rfl, rfl⟩ := q_2
  rw [he]
  refine r_istore_n (pc := 5) dX11_taken_5 (Nat.le_of_ble_eq_true rfl) ?_
  dsimp only [lsSt, List.set, mLs, mEnt]
  refine r_aload_n (pc := 6) dX11_taken_6 rfl (by first | rfl | exact isRefV_rf _) ?_
  refine r_iload_n (pc := 7) dX11_taken_7 rfl ?_
  refine r_callV1 (pc := 8) dX11_taken_8 qX11_isOpen kX11_146 vX11_isOpen (by exact isM.gx (by assumption)) rfl rfl (Nat.le_of_ble_eq_true rfl) (m_isOpen (d + 1) hB hM hC ha) (fun v_8 h_8 q_8 => ?_)
  obtain ⟨rfl, rfl⟩ := q_8
  refine rj_if_ne (pc := 11) (tgt := 17) dX11_taken_11 (by decide) (by first | assumption | exact b01_r | exact bz_r | omega | (constructor <;> omega) | exact hM _ | exact hPo _ | exact hTa _ | exact hRo _) (fun c_11 => ?_) (fun c_11 => ?_)
  · try simp only [b01_0, bz_0, Classical.not_not] at c_11
    refine r_aload_n (pc := 17) dX11_taken_17 rfl (by first | rfl | exact isRefV_rf _) ?_
    refine r_aload_n (pc := 18) dX11_taken_18 rfl (by first | rfl | exact isRefV_rf _) ?_
    refine rm_getf (pc := 19) dX11_taken_19 fX11_21 (by assumption) rfl ?_
    refine r_iload_n (pc := 22) dX11_taken_22 rfl ?_
    refine r_iload_n (pc := 23) dX11_taken_23 rfl ?_
    refine r_callV3 (pc := 24) dX11_taken_24 qX11_heldBy kX11_163 vX11_heldBy (by exact isM.gx (by assumption)) rfl rfl (Nat.le_of_ble_eq_true rfl) (m_heldBy d hB hM (Or.inr ⟨rfl, rfl, by omega⟩) (by omega) hPo hN hcap h7) (fun v_24 h_24 q_24 => ?_)
    obtain ⟨rfl, rfl⟩ := q_24
    refine rj_if_lt (pc := 27) (tgt := 33) dX11_taken_27 (by decide) (by first | assumption | exact b01_r | exact bz_r | omega | (constructor <;> omega) | exact hM _ | exact hPo _ | exact hTa _ | exact hRo _) (fun c_27 => ?_) (fun c_27 => ?_)
    · refine r_aload_n (pc := 33) dX11_taken_33 rfl (by first | rfl | exact isRefV_rf _) ?_
      refine rm_getf (pc := 34) dX11_taken_34 fX11_11 (by assumption) rfl ?_
      refine rj_iconst (pc := 37) dX11_taken_37 ?_
      refine rj_iald (pc := 38) (j := 1) dX11_taken_38 (by first | exact isM.g0 (by assumption) | exact isM.g3 (by assumption) | exact isM.g4 (by assumption) | exact isM.g8 (by assumption) | exact isM.g7 (by assumption) | exact isM.g6 (by assumption) | exact isM.g5 (by assumption) | exact isM.g1 (by assumption) | exact isM.g2 (by assumption)) (by first | assumption | exact b01_r | exact bz_r | omega | (constructor <;> omega) | exact hM _ | exact hPo _ | exact hTa _ | exact hRo _) (by first | assumption | exact b01_r | exact bz_r | omega | (constructor <;> omega) | exact hM _ | exact hPo _ | exact hTa _ | exact hRo _) (by first | assumption | exact b01_r | exact bz_r | omega | (constructor <;> omega) | exact hM _ | exact hPo _ | exact hTa _ | exact hRo _) rfl ?_
      refine rj_bipush (pc := 39) dX11_taken_39 (by decide +kernel) ?_
      refine rj_icmp_ne (pc := 41) (tgt := 47) dX11_taken_41 (by decide) (by first | assumption | exact b01_r | exact bz_r | omega | (constructor <;> omega) | exact hM _ | exact hPo _ | exact hTa _ | exact hRo _) (by first | assumption | exact b01_r | exact bz_r | omega | (constructor <;> omega) | exact hM _ | exact hPo _ | exact hTa _ | exact hRo _) (fun c_41 => ?_) (fun c_41 => ?_)
      · refine r_iload_n (pc := 47) dX11_taken_47 rfl ?_
        refine r_istore (pc := 48) dX11_taken_48 (Nat.le_of_ble_eq_true rfl) ?_
        dsimp only [lsSt, List.set, mLs, mEnt]
        refine r_iload_n (pc := 50) dX11_taken_50 rfl ?_
        refine r_istore (pc := 51) dX11_taken_51 (Nat.le_of_ble_eq_true rfl) ?_
        dsimp only [lsSt, List.set, mLs, mEnt]
        refine r_aload_n (pc := 53) dX11_taken_53 rfl (by first | rfl | exact isRefV_rf _) ?_
        refine rm_getf (pc := 54) dX11_taken_54 fX11_21 (by assumption) rfl ?_
        refine r_iload_n (pc := 57) dX11_taken_57 rfl ?_
        refine rj_iald (pc := 58) (j := e) dX11_taken_58 (by first | exact isM.g0 (by assumption) | exact isM.g3 (by assumption) | exact isM.g4 (by assumption) | exact isM.g8 (by assumption) | exact isM.g7 (by assumption) | exact isM.g6 (by assumption) | exact isM.g5 (by assumption) | exact isM.g1 (by assumption) | exact isM.g2 (by assumption)) (by first | assumption | exact b01_r | exact bz_r | omega | (constructor <;> omega) | exact hM _ | exact hPo _ | exact hTa _ | exact hRo _) (by first | assumption | exact b01_r | exact bz_r | omega | (constructor <;> omega) | exact hM _ | exact hPo _ | exact hTa _ | exact hRo _) (by first | assumption | exact b01_r | exact bz_r | omega | (constructor <;> omega) | exact hM _ | exact hPo _ | exact hTa _ | exact hRo _) (by omega) ?_
        refine rj_bipush (pc := 59) dX11_taken_59 (by decide +kernel) ?_
        refine rj_icmp_ne (pc := 61) (tgt := 128) dX11_taken_61 (by decide) (by first | assumption | exact b01_r | exact bz_r | omega | (constructor <;> omega) | exact hM _ | exact hPo _ | exact hTa _ | exact hRo _) (by first | assumption | exact b01_r | exact bz_r | omega | (constructor <;> omega) | exact hM _ | exact hPo _ | exact hTa _ | exact hRo _) (fun c_61 => ?_) (fun c_61 => ?_)
        · refine r_aload_n (pc := 128) dX11_taken_128 rfl (by first | rfl | exact isRefV_rf _) ?_
          refine r_iload_n (pc := 129) dX11_taken_129 rfl ?_
          refine r_aload_n (pc := 130) dX11_taken_130 rfl (by first | rfl | exact isRefV_rf _) ?_
          refine rm_getf (pc := 131) dX11_taken_131 fX11_21 (by assumption) rfl ?_
          refine r_iload_n (pc := 134) dX11_taken_134 rfl ?_
          refine r_iload_n (pc := 135) dX11_taken_135 rfl ?_
          refine r_iload (pc := 136) dX11_taken_136 rfl ?_
          refine r_iload (pc := 138) dX11_taken_138 rfl ?_
          refine r_callV6 (pc := 140) dX11_taken_140 qX11_takes kX11_167 vX11_takes (by exact isM.gx (by assumption)) rfl rfl (Nat.le_of_ble_eq_true rfl) (m_takes (d + 1) hB0 (Or.inr ⟨rfl, rfl, by omega⟩) (by omega) (by omega) hN (by omega)) (fun v_140 h_140 q_140 => ?_)
          obtain ⟨rfl, hB_140, hS_140⟩ := q_140
          refine r_pop (pc := 143) dX11_taken_143 (by first | rfl | (cases ‹Option Nat› <;> rfl)) ?_
          refine rj_iconst (pc := 144) dX11_taken_144 ?_
          refine r_ireturn (pc := 145) .int dX11_taken_145 rfl (by first | rfl | assumption) ?_
          have e1 : takenV m pool N p e a = 0 := by unfold takenV; rw [if_pos c_11, if_neg (by omega), if_neg (by omega)]
          have e2 : ftF pool n e = ((e : Int), (e : Int)) := by unfold ftF; rw [if_neg c_61]
          exact ⟨by rw [e1], by unfold takenM; rw [if_pos e1, e2]; exact hB_140, hS_140⟩
        · refine r_iload_n (pc := 64) dX11_taken_64 rfl ?_
          refine rj_iconst (pc := 65) dX11_taken_65 ?_
          refine rj_iadd (pc := 66) dX11_taken_66 ?_
          refine r_istore (pc := 67) dX11_taken_67 (Nat.le_of_ble_eq_true rfl) ?_
          dsimp only [lsSt, List.set, mLs, mEnt]
          refine r_iload (pc := 69) dX11_taken_69 rfl ?_
          refine r_istore (pc := 71) dX11_taken_71 (Nat.le_of_ble_eq_true rfl) ?_
          dsimp only [lsSt, List.set, mLs, mEnt]
          refine rj_iconst (pc := 73) dX11_taken_73 ?_
          refine r_istore (pc := 74) dX11_taken_74 (Nat.le_of_ble_eq_true rfl) ?_
          dsimp only [lsSt, List.set, mLs, mEnt]
          have e1 : takenV m pool N p e a = 0 := by unfold takenV; rw [if_pos c_11, if_neg (by omega), if_neg (by omega)]
          have e2 : ftF pool n e = ((e : Int) + 1, (brL pool (n + 1) (e + 1) 1 : Int) + -1) := by unfold ftF; rw [if_pos c_61]
          have z := L_taken (G := G) (l := l) d hB0 hM hPo hN hcap hC h7 (n := n) ha (e := e) hr.1 hr.2 (by omega) (by omega) (F := (e : Int) + 1) n (e + 1) 1 (hst c_61) (by omega) (by omega) (by omega)
          exact z.mono (fun v h' g => ⟨by rw [e1]; exact g.1, by unfold takenM; rw [if_pos e1, e2]; exact g.2.1, g.2.2⟩)
      · refine rj_bipush (pc := 44) dX11_taken_44 (by decide +kernel) ?_
        refine r_ireturn (pc := 46) .int dX11_taken_46 rfl (by first | rfl | assumption) ?_
        have e1 : takenV m pool N p e a = 103 := by unfold takenV; rw [if_pos c_11, if_neg (by omega), if_pos (by omega)]
        exact ⟨by rw [e1], by unfold takenM; rw [if_neg (by rw [e1]; decide)]; exact hB0, Same.refl⟩
    · refine rj_bipush (pc := 30) dX11_taken_30 (by decide +kernel) ?_
      refine r_ireturn (pc := 32) .int dX11_taken_32 rfl (by first | rfl | assumption) ?_
      have e1 : takenV m pool N p e a = 102 := by unfold takenV; rw [if_pos c_11, if_pos (by omega)]
      exact ⟨by rw [e1], by unfold takenM; rw [if_neg (by rw [e1]; decide)]; exact hB0, Same.refl⟩
  · try simp only [b01_0, bz_0, Classical.not_not] at c_11
    refine rj_bipush (pc := 14) dX11_taken_14 (by decide +kernel) ?_
    refine r_ireturn (pc := 16) .int dX11_taken_16 rfl (by first | rfl | assumption) ?_
    have e1 : takenV m pool N p e a = 101 := by unfold takenV; rw [if_neg c_11]
    exact ⟨by rw [e1], by unfold takenM; rw [if_neg (by rw [e1]; decide)]; exact hB0, Same.refl⟩
