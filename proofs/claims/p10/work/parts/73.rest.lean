/-! ===== the reference: rows copied, THE LOG laid, names compared ===== -/
def cpR (rw : Nat → Int) (a b lo hi : Nat) : Nat → Int := fun q => if b + lo ≤ q ∧ q < b + hi then rw (a + (q - b)) else rw q
theorem cpR_0 (rw : Nat → Int) (a b k : Nat) : cpR rw a b k k = rw := by
  funext q; unfold cpR; rw [if_neg (by omega)]
theorem cpR_up (rw : Nat → Int) (a b k : Nat) : updI (cpR rw a b 0 k) (b + k) (rw (a + k)) = cpR rw a b 0 (k + 1) := by
  funext q
  unfold updI cpR
  by_cases h : q = b + k
  · subst h; rw [if_pos rfl, if_pos (by omega)]; congr 1; omega
  · rw [if_neg h]
    by_cases h2 : b + 0 ≤ q ∧ q < b + k
    · rw [if_pos h2, if_pos (by omega)]
    · rw [if_neg h2, if_neg (by omega)]
theorem cpR_dn (rw : Nat → Int) (a b k n : Nat) (hk : k < n) : updI (cpR rw a b (k + 1) n) (b + k) (rw (a + k)) = cpR rw a b k n := by
  funext q
  unfold updI cpR
  by_cases h : q = b + k
  · subst h; rw [if_pos rfl, if_pos (by omega)]; congr 1; omega
  · rw [if_neg h]
    by_cases h2 : b + (k + 1) ≤ q ∧ q < b + n
    · rw [if_pos h2, if_pos (by omega)]
    · rw [if_neg h2, if_neg (by omega)]
theorem cpR_n {rw : Nat → Int} {a b lo hi q : Nat} (h : ¬ (b + lo ≤ q ∧ q < b + hi)) : cpR rw a b lo hi q = rw q := if_neg h
def copyV (rwd : Nat → Int) (r i o j n : Int) : Int := if (0 ≤ r ∧ r ≤ 3) ∧ (0 ≤ o ∧ o ≤ 3) then (if rwd r.toNat < 0 ∨ rwd o.toNat < 0 then -11 else (if n < 0 ∨ i < 0 ∨ j < 0 ∨ rwd r.toNat - i < n ∨ rwd o.toNat - j < n then -13 else n)) else -1
abbrev copyDo (rwd : Nat → Int) (r i o j n : Int) : Prop := ((0 ≤ r ∧ r ≤ 3) ∧ (0 ≤ o ∧ o ≤ 3)) ∧ (0 ≤ rwd r.toNat ∧ 0 ≤ rwd o.toNat) ∧ 0 ≤ n ∧ 0 ≤ i ∧ 0 ≤ j ∧ n ≤ rwd r.toNat - i ∧ n ≤ rwd o.toNat - j
set_option maxHeartbeats 4000000 in
set_option maxRecDepth 100000 in
theorem L_copyUp {G : mG} {l : Launch} (d : Nat) {x s : Nat} {f4 f6 f8 f9 f10 f11 f12 f13 f14 f16 f18 : Int} {m kp was pool tape pln pap rwd rw : Nat → Int} {r i o j n : Int} (hc : copyDo rwd r i o j n) (h40 : ∀ q, rwd q ≤ 40) (hij : j < i) : ∀ (k e : Nat) (h : mH) (v7 : Option Value), (e : Int) + k = n → isM h x (mFs x f4 f6 f8 f9 f10 f11 f12 f13 f14 f16 f18 s) m kp was pool tape pln pap rwd (cpR rw (40 * r + i).toNat (40 * o + j).toNat 0 e) → RUN G l d mX11_copy 84 [some (.ref x), some (.int (J r)), some (.int (J i)), some (.int (J o)), some (.int (J j)), some (.int (J n)), some (.int (J (e : Int))), v7] [] h (fun v h' => v = some (.int (J n)) ∧ isM h' x (mFs x f4 f6 f8 f9 f10 f11 f12 f13 f14 f16 f18 s) m kp was pool tape pln pap rwd (cpR rw (40 * r + i).toNat (40 * o + j).toNat 0 n.toNat) ∧ Same (mBlk x) h h') := by
  obtain ⟨⟨⟨r0, r3⟩, ⟨o0, o3⟩⟩, ⟨w1, w2⟩, n0, i0, j0, ni, nj⟩ := id hc
  have q1 := h40 r.toNat
  have q2 := h40 o.toNat
  intro k
  induction k with
  | zero =>
    intro e h v7 he hB
    have hB0 := hB
    dsimp only [mFs] at hB
    refine r_iload (pc := 84) dX11_copy_84 rfl ?_
    refine r_iload (pc := 86) dX11_copy_86 rfl ?_
    refine rj_icmp_ge (pc := 88) (tgt := 146) dX11_copy_88 (by decide) (by first | assumption | exact b01_r | exact bz_r | omega | (constructor <;> omega) | exact hM _ | exact hPo _ | exact hTa _ | exact hRo _) (by first | assumption | exact b01_r | exact bz_r | omega | (constructor <;> omega) | exact hM _ | exact hPo _ | exact hTa _ | exact hRo _) (fun c_88 => ?_) (fun c_88 => ?_)
    · refine r_iload (pc := 146) dX11_copy_146 rfl ?_
      refine r_ireturn (pc := 148) .int dX11_copy_148 rfl (by first | rfl | assumption) ?_
      have en : e = n.toNat := by omega
      subst en
      exact ⟨rfl, hB0, Same.refl⟩
    · exfalso; omega
  | succ k ih =>
    intro e h v7 he hB
    have hB0 := hB
    dsimp only [mFs] at hB
    refine r_iload (pc := 84) dX11_copy_84 rfl ?_
    refine r_iload (pc := 86) dX11_copy_86 rfl ?_
    refine rj_icmp_ge (pc := 88) (tgt := 146) dX11_copy_88 (by decide) (by first | assumption | exact b01_r | exact bz_r | omega | (constructor <;> omega) | exact hM _ | exact hPo _ | exact hTa _ | exact hRo _) (by first | assumption | exact b01_r | exact bz_r | omega | (constructor <;> omega) | exact hM _ | exact hPo _ | exact hTa _ | exact hRo _) (fun c_88 => ?_) (fun c_88 => ?_)
    · exfalso; omega
    · refine r_iload_n (pc := 91) dX11_copy_91 rfl ?_
      refine r_iload (pc := 92) dX11_copy_92 rfl ?_
      refine rj_icmp_le (pc := 94) (tgt := 102) dX11_copy_94 (by decide) (by first | assumption | exact b01_r | exact bz_r | omega | (constructor <;> omega) | exact hM _ | exact hPo _ | exact hTa _ | exact hRo _) (by first | assumption | exact b01_r | exact bz_r | omega | (constructor <;> omega) | exact hM _ | exact hPo _ | exact hTa _ | exact hRo _) (fun c_94 => ?_) (fun c_94 => ?_)
      · exfalso; omega
      · refine r_iload (pc := 97) dX11_copy_97 rfl ?_
        refine r_goto (pc := 99) (tgt := 109) dX11_copy_99 (by decide) ?_
        refine r_istore (pc := 109) dX11_copy_109 (Nat.le_of_ble_eq_true rfl) ?_
        dsimp only [lsSt, List.set, mLs, mEnt]
        refine r_aload_n (pc := 111) dX11_copy_111 rfl (by first | rfl | exact isRefV_rf _) ?_
        refine rm_getf (pc := 112) dX11_copy_112 fX11_39 (by assumption) rfl ?_
        refine rj_bipush (pc := 115) dX11_copy_115 (by decide +kernel) ?_
        refine r_iload_n (pc := 117) dX11_copy_117 rfl ?_
        refine rj_imul (pc := 118) dX11_copy_118 ?_
        refine r_iload (pc := 119) dX11_copy_119 rfl ?_
        refine rj_iadd (pc := 121) dX11_copy_121 ?_
        refine r_iload (pc := 122) dX11_copy_122 rfl ?_
        refine rj_iadd (pc := 124) dX11_copy_124 ?_
        refine r_aload_n (pc := 125) dX11_copy_125 rfl (by first | rfl | exact isRefV_rf _) ?_
        refine rm_getf (pc := 126) dX11_copy_126 fX11_39 (by assumption) rfl ?_
        refine rj_bipush (pc := 129) dX11_copy_129 (by decide +kernel) ?_
        refine r_iload_n (pc := 131) dX11_copy_131 rfl ?_
        refine rj_imul (pc := 132) dX11_copy_132 ?_
        refine r_iload_n (pc := 133) dX11_copy_133 rfl ?_
        refine rj_iadd (pc := 134) dX11_copy_134 ?_
        refine r_iload (pc := 135) dX11_copy_135 rfl ?_
        refine rj_iadd (pc := 137) dX11_copy_137 ?_
        refine rj_iald (pc := 138) (j := (40 * r + i).toNat + e) dX11_copy_138 (by first | exact isM.g0 (by assumption) | exact isM.g3 (by assumption) | exact isM.g4 (by assumption) | exact isM.g8 (by assumption) | exact isM.g7 (by assumption) | exact isM.g6 (by assumption) | exact isM.g5 (by assumption) | exact isM.g1 (by assumption) | exact isM.g2 (by assumption)) (by first | assumption | exact b01_r | exact bz_r | omega | (constructor <;> omega) | exact hM _ | exact hPo _ | exact hTa _ | exact hRo _) (by first | assumption | exact b01_r | exact bz_r | omega | (constructor <;> omega) | exact hM _ | exact hPo _ | exact hTa _ | exact hRo _) (by first | assumption | exact b01_r | exact bz_r | omega | (constructor <;> omega) | exact hM _ | exact hPo _ | exact hTa _ | exact hRo _) (by omega) ?_
        have e1 : cpR rw (40 * r + i).toNat (40 * o + j).toNat 0 e ((40 * r + i).toNat + e) = rw ((40 * r + i).toNat + e) := cpR_n (by omega)
        rw [e1]
        first | refine rm_iast8 (pc := 139) (j := (40 * o + j).toNat + e) dX11_copy_139 (by assumption) (by first | assumption | exact b01_r | exact bz_r | omega | (constructor <;> omega) | exact hM _ | exact hPo _ | exact hTa _ | exact hRo _) (by first | assumption | exact b01_r | exact bz_r | omega | (constructor <;> omega) | exact hM _ | exact hPo _ | exact hTa _ | exact hRo _) (by first | assumption | exact b01_r | exact bz_r | omega | (constructor <;> omega) | exact hM _ | exact hPo _ | exact hTa _ | exact hRo _) (by omega) (fun h_139 hB_139 hS_139 => ?_)
        rw [cpR_up] at hB_139
        refine rj_iinc (pc := 140) dX11_copy_140 (Nat.le_of_ble_eq_true rfl) rfl ?_
        dsimp only [lsSt, List.set, mLs, mEnt]
        refine r_goto (pc := 143) (tgt := 84) dX11_copy_143 (by decide) ?_
        rw [show ((e : Int) + 1) = ((e + 1 : Nat) : Int) by omega]
        exact (ih (e + 1) _ _ (by omega) hB_139).mono (fun v h' q => ⟨q.1, q.2.1, hS_139.trans q.2.2⟩)
set_option maxHeartbeats 4000000 in
set_option maxRecDepth 100000 in
theorem L_copyDn {G : mG} {l : Launch} (d : Nat) {x s : Nat} {f4 f6 f8 f9 f10 f11 f12 f13 f14 f16 f18 : Int} {m kp was pool tape pln pap rwd rw : Nat → Int} {r i o j n : Int} (hc : copyDo rwd r i o j n) (h40 : ∀ q, rwd q ≤ 40) (hij : i ≤ j) : ∀ (k e : Nat) (h : mH) (v7 : Option Value), (e : Int) + k = n → isM h x (mFs x f4 f6 f8 f9 f10 f11 f12 f13 f14 f16 f18 s) m kp was pool tape pln pap rwd (cpR rw (40 * r + i).toNat (40 * o + j).toNat (n.toNat - e) n.toNat) → RUN G l d mX11_copy 84 [some (.ref x), some (.int (J r)), some (.int (J i)), some (.int (J o)), some (.int (J j)), some (.int (J n)), some (.int (J (e : Int))), v7] [] h (fun v h' => v = some (.int (J n)) ∧ isM h' x (mFs x f4 f6 f8 f9 f10 f11 f12 f13 f14 f16 f18 s) m kp was pool tape pln pap rwd (cpR rw (40 * r + i).toNat (40 * o + j).toNat 0 n.toNat) ∧ Same (mBlk x) h h') := by
  obtain ⟨⟨⟨r0, r3⟩, ⟨o0, o3⟩⟩, ⟨w1, w2⟩, n0, i0, j0, ni, nj⟩ := id hc
  have q1 := h40 r.toNat
  have q2 := h40 o.toNat
  intro k
  induction k with
  | zero =>
    intro e h v7 he hB
    have hB0 := hB
    dsimp only [mFs] at hB
    refine r_iload (pc := 84) dX11_copy_84 rfl ?_
    refine r_iload (pc := 86) dX11_copy_86 rfl ?_
    refine rj_icmp_ge (pc := 88) (tgt := 146) dX11_copy_88 (by decide) (by first | assumption | exact b01_r | exact bz_r | omega | (constructor <;> omega) | exact hM _ | exact hPo _ | exact hTa _ | exact hRo _) (by first | assumption | exact b01_r | exact bz_r | omega | (constructor <;> omega) | exact hM _ | exact hPo _ | exact hTa _ | exact hRo _) (fun c_88 => ?_) (fun c_88 => ?_)
    · refine r_iload (pc := 146) dX11_copy_146 rfl ?_
      refine r_ireturn (pc := 148) .int dX11_copy_148 rfl (by first | rfl | assumption) ?_
      have en : e = n.toNat := by omega
      subst en
      rw [Nat.sub_self] at hB0
      exact ⟨rfl, hB0, Same.refl⟩
    · exfalso; omega
  | succ k ih =>
    intro e h v7 he hB
    have hB0 := hB
    dsimp only [mFs] at hB
    refine r_iload (pc := 84) dX11_copy_84 rfl ?_
    refine r_iload (pc := 86) dX11_copy_86 rfl ?_
    refine rj_icmp_ge (pc := 88) (tgt := 146) dX11_copy_88 (by decide) (by first | assumption | exact b01_r | exact bz_r | omega | (constructor <;> omega) | exact hM _ | exact hPo _ | exact hTa _ | exact hRo _) (by first | assumption | exact b01_r | exact bz_r | omega | (constructor <;> omega) | exact hM _ | exact hPo _ | exact hTa _ | exact hRo _) (fun c_88 => ?_) (fun c_88 => ?_)
    · exfalso; omega
    · refine r_iload_n (pc := 91) dX11_copy_91 rfl ?_
      refine r_iload (pc := 92) dX11_copy_92 rfl ?_
      refine rj_icmp_le (pc := 94) (tgt := 102) dX11_copy_94 (by decide) (by first | assumption | exact b01_r | exact bz_r | omega | (constructor <;> omega) | exact hM _ | exact hPo _ | exact hTa _ | exact hRo _) (by first | assumption | exact b01_r | exact bz_r | omega | (constructor <;> omega) | exact hM _ | exact hPo _ | exact hTa _ | exact hRo _) (fun c_94 => ?_) (fun c_94 => ?_)
      · refine r_iload (pc := 102) dX11_copy_102 rfl ?_
        refine rj_iconst (pc := 104) dX11_copy_104 ?_
        refine rj_isub (pc := 105) dX11_copy_105 ?_
        refine r_iload (pc := 106) dX11_copy_106 rfl ?_
        refine rj_isub (pc := 108) dX11_copy_108 ?_
        refine r_istore (pc := 109) dX11_copy_109 (Nat.le_of_ble_eq_true rfl) ?_
        dsimp only [lsSt, List.set, mLs, mEnt]
        refine r_aload_n (pc := 111) dX11_copy_111 rfl (by first | rfl | exact isRefV_rf _) ?_
        refine rm_getf (pc := 112) dX11_copy_112 fX11_39 (by assumption) rfl ?_
        refine rj_bipush (pc := 115) dX11_copy_115 (by decide +kernel) ?_
        refine r_iload_n (pc := 117) dX11_copy_117 rfl ?_
        refine rj_imul (pc := 118) dX11_copy_118 ?_
        refine r_iload (pc := 119) dX11_copy_119 rfl ?_
        refine rj_iadd (pc := 121) dX11_copy_121 ?_
        refine r_iload (pc := 122) dX11_copy_122 rfl ?_
        refine rj_iadd (pc := 124) dX11_copy_124 ?_
        refine r_aload_n (pc := 125) dX11_copy_125 rfl (by first | rfl | exact isRefV_rf _) ?_
        refine rm_getf (pc := 126) dX11_copy_126 fX11_39 (by assumption) rfl ?_
        refine rj_bipush (pc := 129) dX11_copy_129 (by decide +kernel) ?_
        refine r_iload_n (pc := 131) dX11_copy_131 rfl ?_
        refine rj_imul (pc := 132) dX11_copy_132 ?_
        refine r_iload_n (pc := 133) dX11_copy_133 rfl ?_
        refine rj_iadd (pc := 134) dX11_copy_134 ?_
        refine r_iload (pc := 135) dX11_copy_135 rfl ?_
        refine rj_iadd (pc := 137) dX11_copy_137 ?_
        refine rj_iald (pc := 138) (j := (40 * r + i).toNat + (n.toNat - (e + 1))) dX11_copy_138 (by first | exact isM.g0 (by assumption) | exact isM.g3 (by assumption) | exact isM.g4 (by assumption) | exact isM.g8 (by assumption) | exact isM.g7 (by assumption) | exact isM.g6 (by assumption) | exact isM.g5 (by assumption) | exact isM.g1 (by assumption) | exact isM.g2 (by assumption)) (by first | assumption | exact b01_r | exact bz_r | omega | (constructor <;> omega) | exact hM _ | exact hPo _ | exact hTa _ | exact hRo _) (by first | assumption | exact b01_r | exact bz_r | omega | (constructor <;> omega) | exact hM _ | exact hPo _ | exact hTa _ | exact hRo _) (by first | assumption | exact b01_r | exact bz_r | omega | (constructor <;> omega) | exact hM _ | exact hPo _ | exact hTa _ | exact hRo _) (by omega) ?_
        have e1 : cpR rw (40 * r + i).toNat (40 * o + j).toNat (n.toNat - e) n.toNat ((40 * r + i).toNat + (n.toNat - (e + 1))) = rw ((40 * r + i).toNat + (n.toNat - (e + 1))) := cpR_n (by omega)
        rw [e1]
        first | refine rm_iast8 (pc := 139) (j := (40 * o + j).toNat + (n.toNat - (e + 1))) dX11_copy_139 (by assumption) (by first | assumption | exact b01_r | exact bz_r | omega | (constructor <;> omega) | exact hM _ | exact hPo _ | exact hTa _ | exact hRo _) (by first | assumption | exact b01_r | exact bz_r | omega | (constructor <;> omega) | exact hM _ | exact hPo _ | exact hTa _ | exact hRo _) (by first | assumption | exact b01_r | exact bz_r | omega | (constructor <;> omega) | exact hM _ | exact hPo _ | exact hTa _ | exact hRo _) (by omega) (fun h_139 hB_139 hS_139 => ?_)
        rw [show n.toNat - e = (n.toNat - (e + 1)) + 1 by omega, cpR_dn _ _ _ _ _ (by omega)] at hB_139
        refine rj_iinc (pc := 140) dX11_copy_140 (Nat.le_of_ble_eq_true rfl) rfl ?_
        dsimp only [lsSt, List.set, mLs, mEnt]
        refine r_goto (pc := 143) (tgt := 84) dX11_copy_143 (by decide) ?_
        rw [show ((e : Int) + 1) = ((e + 1 : Nat) : Int) by omega]
        exact (ih (e + 1) _ _ (by omega) hB_139).mono (fun v h' q => ⟨q.1, q.2.1, hS_139.trans q.2.2⟩)
      · exfalso; omega
set_option maxHeartbeats 4000000 in
set_option maxRecDepth 100000 in
theorem m_copy {G : mG} {l : Launch} (d : Nat) {h : mH} {x s : Nat} {f4 f6 f8 f9 f10 f11 f12 f13 f14 f16 f18 : Int} {m kp was pool tape pln pap rwd rw : Nat → Int}(hB : isM h x (mFs x f4 f6 f8 f9 f10 f11 f12 f13 f14 f16 f18 s) m kp was pool tape pln pap rwd rw) (hRo : ∀ q, InR (rwd q)) (h40 : ∀ q, rwd q ≤ 40) {r i o j n : Int} (hr : InR r) (hi : InR i) (ho : InR o) (hj : InR j) (hn : InR n) : RUNM G l (d + 2) mX11_copy [.ref x, .int (J r), .int (J i), .int (J o), .int (J j), .int (J n)] h (fun v h' => v = some (.int (J (copyV rwd r i o j n))) ∧ ((¬ copyDo rwd r i o j n ∧ h' = h) ∨ (copyDo rwd r i o j n ∧ isM h' x (mFs x f4 f6 f8 f9 f10 f11 f12 f13 f14 f16 f18 s) m kp was pool tape pln pap rwd (cpR rw (40 * r + i).toNat (40 * o + j).toNat 0 n.toNat) ∧ Same (mBlk x) h h'))) := by
  have hB0 := hB
  dsimp only [mFs] at hB
  refine RUNM.of (by decide +kernel) (Nat.le_of_ble_eq_true rfl) ?_
  refine r_iload_n (pc := 0) dX11_copy_0 rfl ?_
  refine r_callS1 (pc := 1) dX11_copy_1 qX11_isRow kX11_304 sX11_isRow (Nat.le_of_ble_eq_true rfl) ((m_isRow 0 hr).deeper (by omega)) (fun v_1 h_1 q_1 => ?_)
  obtain ⟨rfl, rfl⟩ := q_1
  refine rj_if_eq (pc := 4) (tgt := 14) dX11_copy_4 (by decide) (by first | assumption | exact b01_r | exact bz_r | omega | (constructor <;> omega) | exact hM _ | exact hPo _ | exact hTa _ | exact hRo _) (fun c_4 => ?_) (fun c_4 => ?_)
  · try simp only [b01_0, bz_0, Classical.not_not] at c_4
    refine rj_iconst (pc := 14) dX11_copy_14 ?_
    refine r_ireturn (pc := 15) .int dX11_copy_15 rfl (by first | rfl | assumption) ?_
    exact ⟨by unfold copyV; rw [if_neg (by omega)], Or.inl ⟨by unfold copyDo; omega, rfl⟩⟩
  · try simp only [b01_0, bz_0, Classical.not_not] at c_4
    refine r_iload_n (pc := 7) dX11_copy_7 rfl ?_
    refine r_callS1 (pc := 8) dX11_copy_8 qX11_isRow kX11_304 sX11_isRow (Nat.le_of_ble_eq_true rfl) ((m_isRow 0 ho).deeper (by omega)) (fun v_8 h_8 q_8 => ?_)
    obtain ⟨rfl, rfl⟩ := q_8
    refine rj_if_ne (pc := 11) (tgt := 16) dX11_copy_11 (by decide) (by first | assumption | exact b01_r | exact bz_r | omega | (constructor <;> omega) | exact hM _ | exact hPo _ | exact hTa _ | exact hRo _) (fun c_11 => ?_) (fun c_11 => ?_)
    · try simp only [b01_0, bz_0, Classical.not_not] at c_11
      have rr := hRo r.toNat
      have ro := hRo o.toNat
      have q1 := h40 r.toNat
      have q2 := h40 o.toNat
      refine r_aload_n (pc := 16) dX11_copy_16 rfl (by first | rfl | exact isRefV_rf _) ?_
      refine rm_getf (pc := 17) dX11_copy_17 fX11_36 (by assumption) rfl ?_
      refine r_iload_n (pc := 20) dX11_copy_20 rfl ?_
      refine rj_iald (pc := 21) (j := r.toNat) dX11_copy_21 (by first | exact isM.g0 (by assumption) | exact isM.g3 (by assumption) | exact isM.g4 (by assumption) | exact isM.g8 (by assumption) | exact isM.g7 (by assumption) | exact isM.g6 (by assumption) | exact isM.g5 (by assumption) | exact isM.g1 (by assumption) | exact isM.g2 (by assumption)) (by first | assumption | exact b01_r | exact bz_r | omega | (constructor <;> omega) | exact hM _ | exact hPo _ | exact hTa _ | exact hRo _) (by first | assumption | exact b01_r | exact bz_r | omega | (constructor <;> omega) | exact hM _ | exact hPo _ | exact hTa _ | exact hRo _) (by first | assumption | exact b01_r | exact bz_r | omega | (constructor <;> omega) | exact hM _ | exact hPo _ | exact hTa _ | exact hRo _) (by omega) ?_
      refine rj_if_lt (pc := 22) (tgt := 34) dX11_copy_22 (by decide) (by first | assumption | exact b01_r | exact bz_r | omega | (constructor <;> omega) | exact hM _ | exact hPo _ | exact hTa _ | exact hRo _) (fun c_22 => ?_) (fun c_22 => ?_)
      · refine rj_bipush (pc := 34) dX11_copy_34 (by decide +kernel) ?_
        refine r_ireturn (pc := 36) .int dX11_copy_36 rfl (by first | rfl | assumption) ?_
        exact ⟨by unfold copyV; rw [if_pos (by omega), if_pos (by omega)], Or.inl ⟨by unfold copyDo; omega, rfl⟩⟩
      · refine r_aload_n (pc := 25) dX11_copy_25 rfl (by first | rfl | exact isRefV_rf _) ?_
        refine rm_getf (pc := 26) dX11_copy_26 fX11_36 (by assumption) rfl ?_
        refine r_iload_n (pc := 29) dX11_copy_29 rfl ?_
        refine rj_iald (pc := 30) (j := o.toNat) dX11_copy_30 (by first | exact isM.g0 (by assumption) | exact isM.g3 (by assumption) | exact isM.g4 (by assumption) | exact isM.g8 (by assumption) | exact isM.g7 (by assumption) | exact isM.g6 (by assumption) | exact isM.g5 (by assumption) | exact isM.g1 (by assumption) | exact isM.g2 (by assumption)) (by first | assumption | exact b01_r | exact bz_r | omega | (constructor <;> omega) | exact hM _ | exact hPo _ | exact hTa _ | exact hRo _) (by first | assumption | exact b01_r | exact bz_r | omega | (constructor <;> omega) | exact hM _ | exact hPo _ | exact hTa _ | exact hRo _) (by first | assumption | exact b01_r | exact bz_r | omega | (constructor <;> omega) | exact hM _ | exact hPo _ | exact hTa _ | exact hRo _) (by omega) ?_
        refine rj_if_ge (pc := 31) (tgt := 37) dX11_copy_31 (by decide) (by first | assumption | exact b01_r | exact bz_r | omega | (constructor <;> omega) | exact hM _ | exact hPo _ | exact hTa _ | exact hRo _) (fun c_31 => ?_) (fun c_31 => ?_)
        · refine r_iload (pc := 37) dX11_copy_37 rfl ?_
          refine rj_if_lt (pc := 39) (tgt := 78) dX11_copy_39 (by decide) (by first | assumption | exact b01_r | exact bz_r | omega | (constructor <;> omega) | exact hM _ | exact hPo _ | exact hTa _ | exact hRo _) (fun c_39 => ?_) (fun c_39 => ?_)
          · refine rj_bipush (pc := 78) dX11_copy_78 (by decide +kernel) ?_
            refine r_ireturn (pc := 80) .int dX11_copy_80 rfl (by first | rfl | assumption) ?_
            exact ⟨by unfold copyV; rw [if_pos (by omega), if_neg (by omega), if_pos (by omega)], Or.inl ⟨by unfold copyDo; omega, rfl⟩⟩
          · refine r_iload_n (pc := 42) dX11_copy_42 rfl ?_
            refine rj_if_lt (pc := 43) (tgt := 78) dX11_copy_43 (by decide) (by first | assumption | exact b01_r | exact bz_r | omega | (constructor <;> omega) | exact hM _ | exact hPo _ | exact hTa _ | exact hRo _) (fun c_43 => ?_) (fun c_43 => ?_)
            · refine rj_bipush (pc := 78) dX11_copy_78 (by decide +kernel) ?_
              refine r_ireturn (pc := 80) .int dX11_copy_80 rfl (by first | rfl | assumption) ?_
              exact ⟨by unfold copyV; rw [if_pos (by omega), if_neg (by omega), if_pos (by omega)], Or.inl ⟨by unfold copyDo; omega, rfl⟩⟩
            · refine r_iload (pc := 46) dX11_copy_46 rfl ?_
              refine rj_if_lt (pc := 48) (tgt := 78) dX11_copy_48 (by decide) (by first | assumption | exact b01_r | exact bz_r | omega | (constructor <;> omega) | exact hM _ | exact hPo _ | exact hTa _ | exact hRo _) (fun c_48 => ?_) (fun c_48 => ?_)
              · refine rj_bipush (pc := 78) dX11_copy_78 (by decide +kernel) ?_
                refine r_ireturn (pc := 80) .int dX11_copy_80 rfl (by first | rfl | assumption) ?_
                exact ⟨by unfold copyV; rw [if_pos (by omega), if_neg (by omega), if_pos (by omega)], Or.inl ⟨by unfold copyDo; omega, rfl⟩⟩
              · refine r_iload (pc := 51) dX11_copy_51 rfl ?_
                refine r_aload_n (pc := 53) dX11_copy_53 rfl (by first | rfl | exact isRefV_rf _) ?_
                refine rm_getf (pc := 54) dX11_copy_54 fX11_36 (by assumption) rfl ?_
                refine r_iload_n (pc := 57) dX11_copy_57 rfl ?_
                refine rj_iald (pc := 58) (j := r.toNat) dX11_copy_58 (by first | exact isM.g0 (by assumption) | exact isM.g3 (by assumption) | exact isM.g4 (by assumption) | exact isM.g8 (by assumption) | exact isM.g7 (by assumption) | exact isM.g6 (by assumption) | exact isM.g5 (by assumption) | exact isM.g1 (by assumption) | exact isM.g2 (by assumption)) (by first | assumption | exact b01_r | exact bz_r | omega | (constructor <;> omega) | exact hM _ | exact hPo _ | exact hTa _ | exact hRo _) (by first | assumption | exact b01_r | exact bz_r | omega | (constructor <;> omega) | exact hM _ | exact hPo _ | exact hTa _ | exact hRo _) (by first | assumption | exact b01_r | exact bz_r | omega | (constructor <;> omega) | exact hM _ | exact hPo _ | exact hTa _ | exact hRo _) (by omega) ?_
                refine r_iload_n (pc := 59) dX11_copy_59 rfl ?_
                refine rj_isub (pc := 60) dX11_copy_60 ?_
                refine rj_icmp_gt (pc := 61) (tgt := 78) dX11_copy_61 (by decide) (by first | assumption | exact b01_r | exact bz_r | omega | (constructor <;> omega) | exact hM _ | exact hPo _ | exact hTa _ | exact hRo _) (by first | assumption | exact b01_r | exact bz_r | omega | (constructor <;> omega) | exact hM _ | exact hPo _ | exact hTa _ | exact hRo _) (fun c_61 => ?_) (fun c_61 => ?_)
                · refine rj_bipush (pc := 78) dX11_copy_78 (by decide +kernel) ?_
                  refine r_ireturn (pc := 80) .int dX11_copy_80 rfl (by first | rfl | assumption) ?_
                  exact ⟨by unfold copyV; rw [if_pos (by omega), if_neg (by omega), if_pos (by omega)], Or.inl ⟨by unfold copyDo; omega, rfl⟩⟩
                · refine r_iload (pc := 64) dX11_copy_64 rfl ?_
                  refine r_aload_n (pc := 66) dX11_copy_66 rfl (by first | rfl | exact isRefV_rf _) ?_
                  refine rm_getf (pc := 67) dX11_copy_67 fX11_36 (by assumption) rfl ?_
                  refine r_iload_n (pc := 70) dX11_copy_70 rfl ?_
                  refine rj_iald (pc := 71) (j := o.toNat) dX11_copy_71 (by first | exact isM.g0 (by assumption) | exact isM.g3 (by assumption) | exact isM.g4 (by assumption) | exact isM.g8 (by assumption) | exact isM.g7 (by assumption) | exact isM.g6 (by assumption) | exact isM.g5 (by assumption) | exact isM.g1 (by assumption) | exact isM.g2 (by assumption)) (by first | assumption | exact b01_r | exact bz_r | omega | (constructor <;> omega) | exact hM _ | exact hPo _ | exact hTa _ | exact hRo _) (by first | assumption | exact b01_r | exact bz_r | omega | (constructor <;> omega) | exact hM _ | exact hPo _ | exact hTa _ | exact hRo _) (by first | assumption | exact b01_r | exact bz_r | omega | (constructor <;> omega) | exact hM _ | exact hPo _ | exact hTa _ | exact hRo _) (by omega) ?_
                  refine r_iload (pc := 72) dX11_copy_72 rfl ?_
                  refine rj_isub (pc := 74) dX11_copy_74 ?_
                  refine rj_icmp_le (pc := 75) (tgt := 81) dX11_copy_75 (by decide) (by first | assumption | exact b01_r | exact bz_r | omega | (constructor <;> omega) | exact hM _ | exact hPo _ | exact hTa _ | exact hRo _) (by first | assumption | exact b01_r | exact bz_r | omega | (constructor <;> omega) | exact hM _ | exact hPo _ | exact hTa _ | exact hRo _) (fun c_75 => ?_) (fun c_75 => ?_)
                  · refine rj_iconst (pc := 81) dX11_copy_81 ?_
                    refine r_istore (pc := 82) dX11_copy_82 (Nat.le_of_ble_eq_true rfl) ?_
                    dsimp only [lsSt, List.set, mLs, mEnt]
                    have hc : copyDo rwd r i o j n := by unfold copyDo; omega
                    have ev : copyV rwd r i o j n = n := by unfold copyV; rw [if_pos (by omega), if_neg (by omega), if_neg (by omega)]
                    rw [ev]
                    by_cases hij : j < i
                    · have y := L_copyUp (G := G) (l := l) (d + 2) hc h40 hij n.toNat 0 _ none (by omega) (by rw [cpR_0]; exact hB0)
                      exact y.mono (fun v h' q => ⟨q.1, Or.inr ⟨hc, q.2⟩⟩)
                    · have y := L_copyDn (G := G) (l := l) (d + 2) hc h40 (by omega) n.toNat 0 _ none (by omega) (by rw [Nat.sub_zero, cpR_0]; exact hB0)
                      exact y.mono (fun v h' q => ⟨q.1, Or.inr ⟨hc, q.2⟩⟩)
                  · refine rj_bipush (pc := 78) dX11_copy_78 (by decide +kernel) ?_
                    refine r_ireturn (pc := 80) .int dX11_copy_80 rfl (by first | rfl | assumption) ?_
                    exact ⟨by unfold copyV; rw [if_pos (by omega), if_neg (by omega), if_pos (by omega)], Or.inl ⟨by unfold copyDo; omega, rfl⟩⟩
        · refine rj_bipush (pc := 34) dX11_copy_34 (by decide +kernel) ?_
          refine r_ireturn (pc := 36) .int dX11_copy_36 rfl (by first | rfl | assumption) ?_
          exact ⟨by unfold copyV; rw [if_pos (by omega), if_pos (by omega)], Or.inl ⟨by unfold copyDo; omega, rfl⟩⟩
    · try simp only [b01_0, bz_0, Classical.not_not] at c_11
      refine rj_iconst (pc := 14) dX11_copy_14 ?_
      refine r_ireturn (pc := 15) .int dX11_copy_15 rfl (by first | rfl | assumption) ?_
      exact ⟨by unfold copyV; rw [if_neg (by omega)], Or.inl ⟨by unfold copyDo; omega, rfl⟩⟩
def layR (rw m : Nat → Int) (b k : Nat) : Nat → Int := fun q => if b ≤ q ∧ q < b + k then m (1518 + (q - b)) else rw q
theorem layR_0 (rw m : Nat → Int) (b : Nat) : layR rw m b 0 = rw := by
  funext q; unfold layR; rw [if_neg (by omega)]
theorem layR_s (rw m : Nat → Int) (b k : Nat) : updI (layR rw m b k) (b + k) (m (1518 + k)) = layR rw m b (k + 1) := by
  funext q
  unfold updI layR
  by_cases h : q = b + k
  · subst h; rw [if_pos rfl, if_pos (by omega)]; congr 1; omega
  · rw [if_neg h]
    by_cases h2 : b ≤ q ∧ q < b + k
    · rw [if_pos h2, if_pos (by omega)]
    · rw [if_neg h2, if_neg (by omega)]
/-- how many numbers of THE LOG find a place -/
def layN (L rd i : Int) : Nat := if i < 0 then 0 else (if L ≤ rd - i then L.toNat else (rd - i).toNat)
def layV (m rwd : Nat → Int) (r i : Int) : Int := if wrongV rwd r = 0 then (if m 2 ≤ 0 ∨ (0 ≤ i ∧ m 2 ≤ rwd r.toNat - i) then m 2 else -13) else wrongV rwd r
set_option maxHeartbeats 4000000 in
set_option maxRecDepth 100000 in
theorem L_lay {G : mG} {l : Launch} (d : Nat) {x s : Nat} {f4 f6 f8 f9 f10 f11 f12 f13 f14 f16 f18 : Int} {m kp was pool tape pln pap rwd rw : Nat → Int} (hok : mOk m) (hRo : ∀ q, InR (rwd q)) (h40 : ∀ q, rwd q ≤ 40) {r i : Int} (hr : 0 ≤ r ∧ r ≤ 3) (hi : InR i) (hw : wrongV rwd r = 0) (hw0 : 0 ≤ rwd r.toNat) : ∀ (n k : Nat) (h : mH), (k : Int) + n = m 2 → (0 < k → 0 ≤ i ∧ (k : Int) ≤ rwd r.toNat - i) → isM h x (mFs x f4 f6 f8 f9 f10 f11 f12 f13 f14 f16 f18 s) m kp was pool tape pln pap rwd (layR rw m (40 * r + i).toNat k) → RUN G l d mX11_lay 15 [some (.ref x), some (.int (J r)), some (.int (J i)), some (.int (J 0)), some (.int (J (k : Int)))] [] h (fun v h' => v = some (.int (J (layV m rwd r i))) ∧ isM h' x (mFs x f4 f6 f8 f9 f10 f11 f12 f13 f14 f16 f18 s) m kp was pool tape pln pap rwd (layR rw m (40 * r + i).toNat (layN (m 2) (rwd r.toNat) i)) ∧ Same (mBlk x) h h') := by
  obtain ⟨hM, k0, k1, k2, k3, k4, k5, k7⟩ := id hok
  have q1 := h40 r.toNat
  intro n
  induction n with
  | zero =>
    intro k h hk hpos hB
    have hB0 := hB
    dsimp only [mFs] at hB
    refine r_iload (pc := 15) dX11_lay_15 rfl ?_
    refine r_aload_n (pc := 17) dX11_lay_17 rfl (by first | rfl | exact isRefV_rf _) ?_
    refine rm_getf (pc := 18) dX11_lay_18 fX11_11 (by assumption) rfl ?_
    refine rj_iconst (pc := 21) dX11_lay_21 ?_
    refine rj_iald (pc := 22) (j := 2) dX11_lay_22 (by first | exact isM.g0 (by assumption) | exact isM.g3 (by assumption) | exact isM.g4 (by assumption) | exact isM.g8 (by assumption) | exact isM.g7 (by assumption) | exact isM.g6 (by assumption) | exact isM.g5 (by assumption) | exact isM.g1 (by assumption) | exact isM.g2 (by assumption)) (by first | assumption | exact b01_r | exact bz_r | omega | (constructor <;> omega) | exact hM _ | exact hPo _ | exact hTa _ | exact hRo _) (by first | assumption | exact b01_r | exact bz_r | omega | (constructor <;> omega) | exact hM _ | exact hPo _ | exact hTa _ | exact hRo _) (by first | assumption | exact b01_r | exact bz_r | omega | (constructor <;> omega) | exact hM _ | exact hPo _ | exact hTa _ | exact hRo _) (by omega) ?_
    refine rj_icmp_ge (pc := 23) (tgt := 77) dX11_lay_23 (by decide) (by first | assumption | exact b01_r | exact bz_r | omega | (constructor <;> omega) | exact hM _ | exact hPo _ | exact hTa _ | exact hRo _) (by first | assumption | exact b01_r | exact bz_r | omega | (constructor <;> omega) | exact hM _ | exact hPo _ | exact hTa _ | exact hRo _) (fun c_23 => ?_) (fun c_23 => ?_)
    · refine r_aload_n (pc := 77) dX11_lay_77 rfl (by first | rfl | exact isRefV_rf _) ?_
      refine rm_getf (pc := 78) dX11_lay_78 fX11_11 (by assumption) rfl ?_
      refine rj_iconst (pc := 81) dX11_lay_81 ?_
      refine rj_iald (pc := 82) (j := 2) dX11_lay_82 (by first | exact isM.g0 (by assumption) | exact isM.g3 (by assumption) | exact isM.g4 (by assumption) | exact isM.g8 (by assumption) | exact isM.g7 (by assumption) | exact isM.g6 (by assumption) | exact isM.g5 (by assumption) | exact isM.g1 (by assumption) | exact isM.g2 (by assumption)) (by first | assumption | exact b01_r | exact bz_r | omega | (constructor <;> omega) | exact hM _ | exact hPo _ | exact hTa _ | exact hRo _) (by first | assumption | exact b01_r | exact bz_r | omega | (constructor <;> omega) | exact hM _ | exact hPo _ | exact hTa _ | exact hRo _) (by first | assumption | exact b01_r | exact bz_r | omega | (constructor <;> omega) | exact hM _ | exact hPo _ | exact hTa _ | exact hRo _) (by omega) ?_
      refine r_ireturn (pc := 83) .int dX11_lay_83 rfl (by first | rfl | assumption) ?_
      rw [show layV m rwd r i = m 2 by unfold layV; rw [if_pos hw, if_pos (by omega)]]
      rw [show layN (m 2) (rwd r.toNat) i = k by unfold layN; split <;> (try split) <;> omega]
      exact ⟨rfl, hB0, Same.refl⟩
    · exfalso; omega
  | succ n ih =>
    intro k h hk hpos hB
    have hB0 := hB
    dsimp only [mFs] at hB
    refine r_iload (pc := 15) dX11_lay_15 rfl ?_
    refine r_aload_n (pc := 17) dX11_lay_17 rfl (by first | rfl | exact isRefV_rf _) ?_
    refine rm_getf (pc := 18) dX11_lay_18 fX11_11 (by assumption) rfl ?_
    refine rj_iconst (pc := 21) dX11_lay_21 ?_
    refine rj_iald (pc := 22) (j := 2) dX11_lay_22 (by first | exact isM.g0 (by assumption) | exact isM.g3 (by assumption) | exact isM.g4 (by assumption) | exact isM.g8 (by assumption) | exact isM.g7 (by assumption) | exact isM.g6 (by assumption) | exact isM.g5 (by assumption) | exact isM.g1 (by assumption) | exact isM.g2 (by assumption)) (by first | assumption | exact b01_r | exact bz_r | omega | (constructor <;> omega) | exact hM _ | exact hPo _ | exact hTa _ | exact hRo _) (by first | assumption | exact b01_r | exact bz_r | omega | (constructor <;> omega) | exact hM _ | exact hPo _ | exact hTa _ | exact hRo _) (by first | assumption | exact b01_r | exact bz_r | omega | (constructor <;> omega) | exact hM _ | exact hPo _ | exact hTa _ | exact hRo _) (by omega) ?_
    refine rj_icmp_ge (pc := 23) (tgt := 77) dX11_lay_23 (by decide) (by first | assumption | exact b01_r | exact bz_r | omega | (constructor <;> omega) | exact hM _ | exact hPo _ | exact hTa _ | exact hRo _) (by first | assumption | exact b01_r | exact bz_r | omega | (constructor <;> omega) | exact hM _ | exact hPo _ | exact hTa _ | exact hRo _) (fun c_23 => ?_) (fun c_23 => ?_)
    · exfalso; omega
    · refine r_iload_n (pc := 26) dX11_lay_26 rfl ?_
      refine rj_if_lt (pc := 27) (tgt := 43) dX11_lay_27 (by decide) (by first | assumption | exact b01_r | exact bz_r | omega | (constructor <;> omega) | exact hM _ | exact hPo _ | exact hTa _ | exact hRo _) (fun c_27 => ?_) (fun c_27 => ?_)
      · refine rj_bipush (pc := 43) dX11_lay_43 (by decide +kernel) ?_
        refine r_ireturn (pc := 45) .int dX11_lay_45 rfl (by first | rfl | assumption) ?_
        rw [show layV m rwd r i = -13 by unfold layV; rw [if_pos hw, if_neg (by omega)]]
        rw [show layN (m 2) (rwd r.toNat) i = k by unfold layN; split <;> (try split) <;> omega]
        exact ⟨rfl, hB0, Same.refl⟩
      · refine r_iload (pc := 30) dX11_lay_30 rfl ?_
        refine r_aload_n (pc := 32) dX11_lay_32 rfl (by first | rfl | exact isRefV_rf _) ?_
        refine rm_getf (pc := 33) dX11_lay_33 fX11_36 (by assumption) rfl ?_
        refine r_iload_n (pc := 36) dX11_lay_36 rfl ?_
        refine rj_iald (pc := 37) (j := r.toNat) dX11_lay_37 (by first | exact isM.g0 (by assumption) | exact isM.g3 (by assumption) | exact isM.g4 (by assumption) | exact isM.g8 (by assumption) | exact isM.g7 (by assumption) | exact isM.g6 (by assumption) | exact isM.g5 (by assumption) | exact isM.g1 (by assumption) | exact isM.g2 (by assumption)) (by first | assumption | exact b01_r | exact bz_r | omega | (constructor <;> omega) | exact hM _ | exact hPo _ | exact hTa _ | exact hRo _) (by first | assumption | exact b01_r | exact bz_r | omega | (constructor <;> omega) | exact hM _ | exact hPo _ | exact hTa _ | exact hRo _) (by first | assumption | exact b01_r | exact bz_r | omega | (constructor <;> omega) | exact hM _ | exact hPo _ | exact hTa _ | exact hRo _) (by omega) ?_
        refine r_iload_n (pc := 38) dX11_lay_38 rfl ?_
        refine rj_isub (pc := 39) dX11_lay_39 ?_
        refine rj_icmp_lt (pc := 40) (tgt := 46) dX11_lay_40 (by decide) (by first | assumption | exact b01_r | exact bz_r | omega | (constructor <;> omega) | exact hM _ | exact hPo _ | exact hTa _ | exact hRo _) (by first | assumption | exact b01_r | exact bz_r | omega | (constructor <;> omega) | exact hM _ | exact hPo _ | exact hTa _ | exact hRo _) (fun c_40 => ?_) (fun c_40 => ?_)
        · refine r_aload_n (pc := 46) dX11_lay_46 rfl (by first | rfl | exact isRefV_rf _) ?_
          refine rm_getf (pc := 47) dX11_lay_47 fX11_39 (by assumption) rfl ?_
          refine rj_bipush (pc := 50) dX11_lay_50 (by decide +kernel) ?_
          refine r_iload_n (pc := 52) dX11_lay_52 rfl ?_
          refine rj_imul (pc := 53) dX11_lay_53 ?_
          refine r_iload_n (pc := 54) dX11_lay_54 rfl ?_
          refine rj_iadd (pc := 55) dX11_lay_55 ?_
          refine r_iload (pc := 56) dX11_lay_56 rfl ?_
          refine rj_iadd (pc := 58) dX11_lay_58 ?_
          refine r_aload_n (pc := 59) dX11_lay_59 rfl (by first | rfl | exact isRefV_rf _) ?_
          refine rm_getf (pc := 60) dX11_lay_60 fX11_11 (by assumption) rfl ?_
          refine rj_sipush (pc := 63) dX11_lay_63 (by decide +kernel) ?_
          refine r_iload (pc := 66) dX11_lay_66 rfl ?_
          refine rj_iadd (pc := 68) dX11_lay_68 ?_
          refine rj_iald (pc := 69) (j := 1518 + k) dX11_lay_69 (by first | exact isM.g0 (by assumption) | exact isM.g3 (by assumption) | exact isM.g4 (by assumption) | exact isM.g8 (by assumption) | exact isM.g7 (by assumption) | exact isM.g6 (by assumption) | exact isM.g5 (by assumption) | exact isM.g1 (by assumption) | exact isM.g2 (by assumption)) (by first | assumption | exact b01_r | exact bz_r | omega | (constructor <;> omega) | exact hM _ | exact hPo _ | exact hTa _ | exact hRo _) (by first | assumption | exact b01_r | exact bz_r | omega | (constructor <;> omega) | exact hM _ | exact hPo _ | exact hTa _ | exact hRo _) (by first | assumption | exact b01_r | exact bz_r | omega | (constructor <;> omega) | exact hM _ | exact hPo _ | exact hTa _ | exact hRo _) (by omega) ?_
          first | refine rm_iast8 (pc := 70) (j := (40 * r + i).toNat + k) dX11_lay_70 (by assumption) (by first | assumption | exact b01_r | exact bz_r | omega | (constructor <;> omega) | exact hM _ | exact hPo _ | exact hTa _ | exact hRo _) (by first | assumption | exact b01_r | exact bz_r | omega | (constructor <;> omega) | exact hM _ | exact hPo _ | exact hTa _ | exact hRo _) (by first | assumption | exact b01_r | exact bz_r | omega | (constructor <;> omega) | exact hM _ | exact hPo _ | exact hTa _ | exact hRo _) (by omega) (fun h_70 hB_70 hS_70 => ?_)
          rw [layR_s] at hB_70
          refine rj_iinc (pc := 71) dX11_lay_71 (Nat.le_of_ble_eq_true rfl) rfl ?_
          dsimp only [lsSt, List.set, mLs, mEnt]
          refine r_goto (pc := 74) (tgt := 15) dX11_lay_74 (by decide) ?_
          have y := ih (k + 1) _ (by omega) (fun _ => by omega) hB_70
          rw [show ((k + 1 : Nat) : Int) = (k : Int) + 1 by omega] at y
          exact y.mono (fun v h' q => ⟨q.1, q.2.1, hS_70.trans q.2.2⟩)
        · refine rj_bipush (pc := 43) dX11_lay_43 (by decide +kernel) ?_
          refine r_ireturn (pc := 45) .int dX11_lay_45 rfl (by first | rfl | assumption) ?_
          rw [show layV m rwd r i = -13 by unfold layV; rw [if_pos hw, if_neg (by omega)]]
          rw [show layN (m 2) (rwd r.toNat) i = k by unfold layN; split <;> (try split) <;> omega]
          exact ⟨rfl, hB0, Same.refl⟩
set_option maxHeartbeats 4000000 in
set_option maxRecDepth 100000 in
theorem m_lay {G : mG} {l : Launch} (d : Nat) {h : mH} {x s : Nat} {f4 f6 f8 f9 f10 f11 f12 f13 f14 f16 f18 : Int} {m kp was pool tape pln pap rwd rw : Nat → Int}(hB : isM h x (mFs x f4 f6 f8 f9 f10 f11 f12 f13 f14 f16 f18 s) m kp was pool tape pln pap rwd rw) (hok : mOk m) (hRo : ∀ q, InR (rwd q)) (h40 : ∀ q, rwd q ≤ 40) {r i : Int} (hr : InR r) (hi : InR i) : RUNM G l (d + 3) mX11_lay [.ref x, .int (J r), .int (J i)] h (fun v h' => v = some (.int (J (layV m rwd r i))) ∧ ((¬ wrongV rwd r = 0 ∧ h' = h) ∨ (wrongV rwd r = 0 ∧ isM h' x (mFs x f4 f6 f8 f9 f10 f11 f12 f13 f14 f16 f18 s) m kp was pool tape pln pap rwd (layR rw m (40 * r + i).toNat (layN (m 2) (rwd r.toNat) i)) ∧ Same (mBlk x) h h'))) := by
  have hB0 := hB
  have k2 := hok.2.2.2.1
  have wv : wrongV rwd r = 0 → (0 ≤ r ∧ r ≤ 3) ∧ 0 ≤ rwd r.toNat := by unfold wrongV; intro g; split at g <;> (try split at g) <;> first | (exfalso; omega) | omega
  have rwr : InR (wrongV rwd r) := by unfold wrongV; split <;> (try split) <;> decide
  dsimp only [mFs] at hB
  refine RUNM.of (by decide +kernel) (Nat.le_of_ble_eq_true rfl) ?_
  refine r_aload_n (pc := 0) dX11_lay_0 rfl (by first | rfl | exact isRefV_rf _) ?_
  refine r_iload_n (pc := 1) dX11_lay_1 rfl ?_
  refine r_callV1 (pc := 2) dX11_lay_2 qX11_wrong kX11_307 vX11_wrong (by exact isM.gx (by assumption)) rfl rfl (Nat.le_of_ble_eq_true rfl) (m_wrong d hB0 hRo hr) (fun v_2 h_2 q_2 => ?_)
  obtain ⟨rfl, rfl⟩ := q_2
  refine r_istore_n (pc := 5) dX11_lay_5 (Nat.le_of_ble_eq_true rfl) ?_
  dsimp only [lsSt, List.set, mLs, mEnt]
  refine r_iload_n (pc := 6) dX11_lay_6 rfl ?_
  refine rj_if_eq (pc := 7) (tgt := 12) dX11_lay_7 (by decide) (by first | assumption | exact b01_r | exact bz_r | omega | (constructor <;> omega) | exact hM _ | exact hPo _ | exact hTa _ | exact hRo _) (fun c_7 => ?_) (fun c_7 => ?_)
  · try simp only [b01_0, bz_0, Classical.not_not] at c_7
    refine rj_iconst (pc := 12) dX11_lay_12 ?_
    refine r_istore (pc := 13) dX11_lay_13 (Nat.le_of_ble_eq_true rfl) ?_
    dsimp only [lsSt, List.set, mLs, mEnt]
    rw [c_7]
    have y := L_lay (G := G) (l := l) (d + 3) hok hRo h40 (wv c_7).1 hi c_7 (wv c_7).2 (m 2).toNat 0 _ (by omega) (fun g => absurd g (by omega)) (by rw [layR_0]; exact hB0)
    exact y.mono (fun v h' q => ⟨q.1, Or.inr ⟨rfl, q.2⟩⟩)
  · try simp only [b01_0, bz_0, Classical.not_not] at c_7
    refine r_iload_n (pc := 10) dX11_lay_10 rfl ?_
    refine r_ireturn (pc := 11) .int dX11_lay_11 rfl (by first | rfl | assumption) ?_
    exact ⟨by unfold layV; rw [if_neg c_7], Or.inl ⟨c_7, rfl⟩⟩
set_option maxHeartbeats 4000000 in
set_option maxRecDepth 100000 in
theorem L_judge {G : mG} {l : Launch} (d : Nat) {h : mH} {x s : Nat} {f4 f6 f8 f9 f10 f11 f12 f13 f14 f16 f18 : Int} {m kp was pool tape pln pap rwd rw : Nat → Int}(hB : isM h x (mFs x f4 f6 f8 f9 f10 f11 f12 f13 f14 f16 f18 s) m kp was pool tape pln pap rwd rw) (hok : mOk m) (hRo : ∀ q, InR (rwd q)) (hRw : ∀ q, InR (rw q)) (h40 : ∀ q, rwd q ≤ 40) {r i : Int} (hr : 0 ≤ r ∧ r ≤ 3) (hi : InR i) (hw0 : 0 ≤ rwd r.toNat) : ∀ (n k : Nat), (k : Int) + n = m 2 → RUN G l d mX11_judge 15 [some (.ref x), some (.int (J r)), some (.int (J i)), some (.int (J 0)), some (.int (J (k : Int)))] [] h (fun v h' => (∃ a, InR a ∧ v = some (.int (J a))) ∧ h' = h) := by
  obtain ⟨hM, k0, k1, k2, k3, k4, k5, k7⟩ := id hok
  have q1 := h40 r.toNat
  intro n
  induction n with
  | zero =>
    intro k hk
    have hB0 := hB
    dsimp only [mFs] at hB
    refine r_iload (pc := 15) dX11_judge_15 rfl ?_
    refine r_aload_n (pc := 17) dX11_judge_17 rfl (by first | rfl | exact isRefV_rf _) ?_
    refine rm_getf (pc := 18) dX11_judge_18 fX11_11 (by assumption) rfl ?_
    refine rj_iconst (pc := 21) dX11_judge_21 ?_
    refine rj_iald (pc := 22) (j := 2) dX11_judge_22 (by first | exact isM.g0 (by assumption) | exact isM.g3 (by assumption) | exact isM.g4 (by assumption) | exact isM.g8 (by assumption) | exact isM.g7 (by assumption) | exact isM.g6 (by assumption) | exact isM.g5 (by assumption) | exact isM.g1 (by assumption) | exact isM.g2 (by assumption)) (by first | assumption | exact b01_r | exact bz_r | omega | (constructor <;> omega) | exact hM _ | exact hPo _ | exact hTa _ | exact hRo _) (by first | assumption | exact b01_r | exact bz_r | omega | (constructor <;> omega) | exact hM _ | exact hPo _ | exact hTa _ | exact hRo _) (by first | assumption | exact b01_r | exact bz_r | omega | (constructor <;> omega) | exact hM _ | exact hPo _ | exact hTa _ | exact hRo _) (by omega) ?_
    refine rj_icmp_ge (pc := 23) (tgt := 87) dX11_judge_23 (by decide) (by first | assumption | exact b01_r | exact bz_r | omega | (constructor <;> omega) | exact hM _ | exact hPo _ | exact hTa _ | exact hRo _) (by first | assumption | exact b01_r | exact bz_r | omega | (constructor <;> omega) | exact hM _ | exact hPo _ | exact hTa _ | exact hRo _) (fun c_23 => ?_) (fun c_23 => ?_)
    · refine rj_bipush (pc := 87) dX11_judge_87 (by decide +kernel) ?_
      refine r_ireturn (pc := 89) .int dX11_judge_89 rfl (by first | rfl | assumption) ?_
      exact ⟨⟨_, by decide, rfl⟩, rfl⟩
    · exfalso; omega
  | succ n ih =>
    intro k hk
    have hB0 := hB
    dsimp only [mFs] at hB
    refine r_iload (pc := 15) dX11_judge_15 rfl ?_
    refine r_aload_n (pc := 17) dX11_judge_17 rfl (by first | rfl | exact isRefV_rf _) ?_
    refine rm_getf (pc := 18) dX11_judge_18 fX11_11 (by assumption) rfl ?_
    refine rj_iconst (pc := 21) dX11_judge_21 ?_
    refine rj_iald (pc := 22) (j := 2) dX11_judge_22 (by first | exact isM.g0 (by assumption) | exact isM.g3 (by assumption) | exact isM.g4 (by assumption) | exact isM.g8 (by assumption) | exact isM.g7 (by assumption) | exact isM.g6 (by assumption) | exact isM.g5 (by assumption) | exact isM.g1 (by assumption) | exact isM.g2 (by assumption)) (by first | assumption | exact b01_r | exact bz_r | omega | (constructor <;> omega) | exact hM _ | exact hPo _ | exact hTa _ | exact hRo _) (by first | assumption | exact b01_r | exact bz_r | omega | (constructor <;> omega) | exact hM _ | exact hPo _ | exact hTa _ | exact hRo _) (by first | assumption | exact b01_r | exact bz_r | omega | (constructor <;> omega) | exact hM _ | exact hPo _ | exact hTa _ | exact hRo _) (by omega) ?_
    refine rj_icmp_ge (pc := 23) (tgt := 87) dX11_judge_23 (by decide) (by first | assumption | exact b01_r | exact bz_r | omega | (constructor <;> omega) | exact hM _ | exact hPo _ | exact hTa _ | exact hRo _) (by first | assumption | exact b01_r | exact bz_r | omega | (constructor <;> omega) | exact hM _ | exact hPo _ | exact hTa _ | exact hRo _) (fun c_23 => ?_) (fun c_23 => ?_)
    · exfalso; omega
    · refine r_iload_n (pc := 26) dX11_judge_26 rfl ?_
      refine rj_if_lt (pc := 27) (tgt := 43) dX11_judge_27 (by decide) (by first | assumption | exact b01_r | exact bz_r | omega | (constructor <;> omega) | exact hM _ | exact hPo _ | exact hTa _ | exact hRo _) (fun c_27 => ?_) (fun c_27 => ?_)
      · refine rj_sipush (pc := 43) dX11_judge_43 (by decide +kernel) ?_
        refine r_iload (pc := 46) dX11_judge_46 rfl ?_
        refine rj_iadd (pc := 48) dX11_judge_48 ?_
        refine r_ireturn (pc := 49) .int dX11_judge_49 rfl (by first | rfl | assumption) ?_
        exact ⟨⟨_, ⟨by omega, by omega⟩, rfl⟩, rfl⟩
      · refine r_iload (pc := 30) dX11_judge_30 rfl ?_
        refine r_aload_n (pc := 32) dX11_judge_32 rfl (by first | rfl | exact isRefV_rf _) ?_
        refine rm_getf (pc := 33) dX11_judge_33 fX11_36 (by assumption) rfl ?_
        refine r_iload_n (pc := 36) dX11_judge_36 rfl ?_
        refine rj_iald (pc := 37) (j := r.toNat) dX11_judge_37 (by first | exact isM.g0 (by assumption) | exact isM.g3 (by assumption) | exact isM.g4 (by assumption) | exact isM.g8 (by assumption) | exact isM.g7 (by assumption) | exact isM.g6 (by assumption) | exact isM.g5 (by assumption) | exact isM.g1 (by assumption) | exact isM.g2 (by assumption)) (by first | assumption | exact b01_r | exact bz_r | omega | (constructor <;> omega) | exact hM _ | exact hPo _ | exact hTa _ | exact hRo _) (by first | assumption | exact b01_r | exact bz_r | omega | (constructor <;> omega) | exact hM _ | exact hPo _ | exact hTa _ | exact hRo _) (by first | assumption | exact b01_r | exact bz_r | omega | (constructor <;> omega) | exact hM _ | exact hPo _ | exact hTa _ | exact hRo _) (by omega) ?_
        refine r_iload_n (pc := 38) dX11_judge_38 rfl ?_
        refine rj_isub (pc := 39) dX11_judge_39 ?_
        refine rj_icmp_lt (pc := 40) (tgt := 50) dX11_judge_40 (by decide) (by first | assumption | exact b01_r | exact bz_r | omega | (constructor <;> omega) | exact hM _ | exact hPo _ | exact hTa _ | exact hRo _) (by first | assumption | exact b01_r | exact bz_r | omega | (constructor <;> omega) | exact hM _ | exact hPo _ | exact hTa _ | exact hRo _) (fun c_40 => ?_) (fun c_40 => ?_)
        · refine r_aload_n (pc := 50) dX11_judge_50 rfl (by first | rfl | exact isRefV_rf _) ?_
          refine rm_getf (pc := 51) dX11_judge_51 fX11_39 (by assumption) rfl ?_
          refine rj_bipush (pc := 54) dX11_judge_54 (by decide +kernel) ?_
          refine r_iload_n (pc := 56) dX11_judge_56 rfl ?_
          refine rj_imul (pc := 57) dX11_judge_57 ?_
          refine r_iload_n (pc := 58) dX11_judge_58 rfl ?_
          refine rj_iadd (pc := 59) dX11_judge_59 ?_
          refine r_iload (pc := 60) dX11_judge_60 rfl ?_
          refine rj_iadd (pc := 62) dX11_judge_62 ?_
          have ra := hRw ((40 * r + i).toNat + k)
          have rb := hM (1518 + k)
          refine rj_iald (pc := 63) (j := (40 * r + i).toNat + k) dX11_judge_63 (by first | exact isM.g0 (by assumption) | exact isM.g3 (by assumption) | exact isM.g4 (by assumption) | exact isM.g8 (by assumption) | exact isM.g7 (by assumption) | exact isM.g6 (by assumption) | exact isM.g5 (by assumption) | exact isM.g1 (by assumption) | exact isM.g2 (by assumption)) (by first | assumption | exact b01_r | exact bz_r | omega | (constructor <;> omega) | exact hM _ | exact hPo _ | exact hTa _ | exact hRo _) (by first | assumption | exact b01_r | exact bz_r | omega | (constructor <;> omega) | exact hM _ | exact hPo _ | exact hTa _ | exact hRo _) (by first | assumption | exact b01_r | exact bz_r | omega | (constructor <;> omega) | exact hM _ | exact hPo _ | exact hTa _ | exact hRo _) (by omega) ?_
          refine r_aload_n (pc := 64) dX11_judge_64 rfl (by first | rfl | exact isRefV_rf _) ?_
          refine rm_getf (pc := 65) dX11_judge_65 fX11_11 (by assumption) rfl ?_
          refine rj_sipush (pc := 68) dX11_judge_68 (by decide +kernel) ?_
          refine r_iload (pc := 71) dX11_judge_71 rfl ?_
          refine rj_iadd (pc := 73) dX11_judge_73 ?_
          refine rj_iald (pc := 74) (j := 1518 + k) dX11_judge_74 (by first | exact isM.g0 (by assumption) | exact isM.g3 (by assumption) | exact isM.g4 (by assumption) | exact isM.g8 (by assumption) | exact isM.g7 (by assumption) | exact isM.g6 (by assumption) | exact isM.g5 (by assumption) | exact isM.g1 (by assumption) | exact isM.g2 (by assumption)) (by first | assumption | exact b01_r | exact bz_r | omega | (constructor <;> omega) | exact hM _ | exact hPo _ | exact hTa _ | exact hRo _) (by first | assumption | exact b01_r | exact bz_r | omega | (constructor <;> omega) | exact hM _ | exact hPo _ | exact hTa _ | exact hRo _) (by first | assumption | exact b01_r | exact bz_r | omega | (constructor <;> omega) | exact hM _ | exact hPo _ | exact hTa _ | exact hRo _) (by omega) ?_
          refine rj_icmp_eq (pc := 75) (tgt := 81) dX11_judge_75 (by decide) (by first | assumption | exact b01_r | exact bz_r | omega | (constructor <;> omega) | exact hM _ | exact hPo _ | exact hTa _ | exact hRo _) (by first | assumption | exact b01_r | exact bz_r | omega | (constructor <;> omega) | exact hM _ | exact hPo _ | exact hTa _ | exact hRo _) (fun c_75 => ?_) (fun c_75 => ?_)
          · refine rj_iinc (pc := 81) dX11_judge_81 (Nat.le_of_ble_eq_true rfl) rfl ?_
            dsimp only [lsSt, List.set, mLs, mEnt]
            refine r_goto (pc := 84) (tgt := 15) dX11_judge_84 (by decide) ?_
            have y := ih (k + 1) (by omega)
            rw [show ((k + 1 : Nat) : Int) = (k : Int) + 1 by omega] at y
            exact y
          · refine r_iload (pc := 78) dX11_judge_78 rfl ?_
            refine r_ireturn (pc := 80) .int dX11_judge_80 rfl (by first | rfl | assumption) ?_
            exact ⟨⟨_, ⟨by omega, by omega⟩, rfl⟩, rfl⟩
        · refine rj_sipush (pc := 43) dX11_judge_43 (by decide +kernel) ?_
          refine r_iload (pc := 46) dX11_judge_46 rfl ?_
          refine rj_iadd (pc := 48) dX11_judge_48 ?_
          refine r_ireturn (pc := 49) .int dX11_judge_49 rfl (by first | rfl | assumption) ?_
          exact ⟨⟨_, ⟨by omega, by omega⟩, rfl⟩, rfl⟩
set_option maxHeartbeats 4000000 in
set_option maxRecDepth 100000 in
theorem m_judge {G : mG} {l : Launch} (d : Nat) {h : mH} {x s : Nat} {f4 f6 f8 f9 f10 f11 f12 f13 f14 f16 f18 : Int} {m kp was pool tape pln pap rwd rw : Nat → Int}(hB : isM h x (mFs x f4 f6 f8 f9 f10 f11 f12 f13 f14 f16 f18 s) m kp was pool tape pln pap rwd rw) (hok : mOk m) (hRo : ∀ q, InR (rwd q)) (hRw : ∀ q, InR (rw q)) (h40 : ∀ q, rwd q ≤ 40) {r i : Int} (hr : InR r) (hi : InR i) : RUNM G l (d + 3) mX11_judge [.ref x, .int (J r), .int (J i)] h (fun v h' => (∃ a, InR a ∧ v = some (.int (J a))) ∧ h' = h) := by
  have hB0 := hB
  have k2 := hok.2.2.2.1
  have wv : wrongV rwd r = 0 → (0 ≤ r ∧ r ≤ 3) ∧ 0 ≤ rwd r.toNat := by unfold wrongV; intro g; split at g <;> (try split at g) <;> first | (exfalso; omega) | omega
  have rwr : InR (wrongV rwd r) := by unfold wrongV; split <;> (try split) <;> decide
  dsimp only [mFs] at hB
  refine RUNM.of (by decide +kernel) (Nat.le_of_ble_eq_true rfl) ?_
  refine r_aload_n (pc := 0) dX11_judge_0 rfl (by first | rfl | exact isRefV_rf _) ?_
  refine r_iload_n (pc := 1) dX11_judge_1 rfl ?_
  refine r_callV1 (pc := 2) dX11_judge_2 qX11_wrong kX11_307 vX11_wrong (by exact isM.gx (by assumption)) rfl rfl (Nat.le_of_ble_eq_true rfl) (m_wrong d hB0 hRo hr) (fun v_2 h_2 q_2 => ?_)
  obtain ⟨rfl, rfl⟩ := q_2
  refine r_istore_n (pc := 5) dX11_judge_5 (Nat.le_of_ble_eq_true rfl) ?_
  dsimp only [lsSt, List.set, mLs, mEnt]
  refine r_iload_n (pc := 6) dX11_judge_6 rfl ?_
  refine rj_if_eq (pc := 7) (tgt := 12) dX11_judge_7 (by decide) (by first | assumption | exact b01_r | exact bz_r | omega | (constructor <;> omega) | exact hM _ | exact hPo _ | exact hTa _ | exact hRo _) (fun c_7 => ?_) (fun c_7 => ?_)
  · try simp only [b01_0, bz_0, Classical.not_not] at c_7
    refine rj_iconst (pc := 12) dX11_judge_12 ?_
    refine r_istore (pc := 13) dX11_judge_13 (Nat.le_of_ble_eq_true rfl) ?_
    dsimp only [lsSt, List.set, mLs, mEnt]
    rw [c_7]
    exact L_judge (G := G) (l := l) (d + 3) hB0 hok hRo hRw h40 (wv c_7).1 hi (wv c_7).2 (m 2).toNat 0 (by omega)
  · try simp only [b01_0, bz_0, Classical.not_not] at c_7
    refine r_iload_n (pc := 10) dX11_judge_10 rfl ?_
    refine r_ireturn (pc := 11) .int dX11_judge_11 rfl (by first | rfl | assumption) ?_
    exact ⟨⟨_, rwr, rfl⟩, rfl⟩
set_option maxHeartbeats 4000000 in
set_option maxRecDepth 100000 in
theorem m_find {G : mG} {l : Launch} (d : Nat) {h : mH} {x s : Nat} {f4 f6 f8 f9 f10 f11 f12 f13 f14 f16 f18 : Int} {m kp was pool tape pln pap rwd rw : Nat → Int}(hB : isM h x (mFs x f4 f6 f8 f9 f10 f11 f12 f13 f14 f16 f18 s) m kp was pool tape pln pap rwd rw) (hok : mOk m) (h6 : 0 ≤ f6 ∧ f6 ≤ 120) (hTa : ∀ q, InR (tape q)) : RUNM G l (d + 4) mX11_find [.ref x] h (fun v h' => v = some (.int (J (hbL m tape 0 f6.toNat (m 1).toNat 0))) ∧ isM h' x (mFs x f4 0 f8 f9 f10 f11 f12 f13 f14 f16 f18 s) m kp was pool tape pln pap rwd rw ∧ Same (mBlk x) h h') := by
  obtain ⟨hM, k0, k1, k2, k3, k4, k5, k7⟩ := id hok
  have hB0 := hB
  dsimp only [mFs] at hB
  refine RUNM.of (by decide +kernel) (Nat.le_of_ble_eq_true rfl) ?_
  refine r_aload_n (pc := 0) dX11_find_0 rfl (by first | rfl | exact isRefV_rf _) ?_
  refine rm_getf (pc := 1) dX11_find_1 fX11_61 (by assumption) rfl ?_
  refine r_istore_n (pc := 4) dX11_find_4 (Nat.le_of_ble_eq_true rfl) ?_
  dsimp only [lsSt, List.set, mLs, mEnt]
  refine r_aload_n (pc := 5) dX11_find_5 rfl (by first | rfl | exact isRefV_rf _) ?_
  refine rj_iconst (pc := 6) dX11_find_6 ?_
  refine rm_putf (pc := 7) dX11_find_7 fX11_61 (by assumption) rfl rfl (Nat.le_of_ble_eq_true rfl) (fun h_7 hB_7 hS_7 => ?_)
  dsimp only [List.set, mFs] at hB_7
  refine r_aload_n (pc := 10) dX11_find_10 rfl (by first | rfl | exact isRefV_rf _) ?_
  refine r_aload_n (pc := 11) dX11_find_11 rfl (by first | rfl | exact isRefV_rf _) ?_
  refine rm_getf (pc := 12) dX11_find_12 fX11_24 (by assumption) rfl ?_
  refine rj_iconst (pc := 15) dX11_find_15 ?_
  refine r_iload_n (pc := 16) dX11_find_16 rfl ?_
  refine r_callV3 (pc := 17) dX11_find_17 qX11_heldBy kX11_163 vX11_heldBy (by exact isM.gx (by assumption)) rfl rfl (Nat.le_of_ble_eq_true rfl) (by have y := m_heldBy (G := G) (l := l) d (show isM h_7 x (mFs x f4 0 f8 f9 f10 f11 f12 f13 f14 f16 f18 s) m kp was pool tape pln pap rwd rw from hB_7) hM (rs := 4) (rc := tape) (fr := 0) (to := f6.toNat) (Or.inl ⟨rfl, rfl, by omega⟩) (by omega) hTa (N := (m 1).toNat) (by omega) (by omega) (fun t ht => k7 t (by omega)); rw [show ((f6.toNat : Nat) : Int) = f6 by omega] at y; exact y) (fun v_17 h_17 q_17 => ?_)
  obtain ⟨rfl, rfl⟩ := q_17
  refine r_ireturn (pc := 20) .int dX11_find_20 rfl (by first | rfl | assumption) ?_
  exact ⟨rfl, hB_7, hS_7⟩
/-- how the name of a thing stands to bytes of a row -/
def agL (m rc : Nat → Int) (t fr : Nat) (own many : Int) : Nat → Nat → Int
  | 0, _ => own - many
  | n + 1, k => if m (265 + 14 * t + k) - rc (fr + k) = 0 then agL m rc t fr own many n (k + 1) else m (265 + 14 * t + k) - rc (fr + k)
def agN (own many : Int) : Nat := if own ≤ many then own.toNat else many.toNat
def agV (m rc : Nat → Int) (t fr : Nat) (many : Int) : Int := agL m rc t fr (m (261 + 14 * t)) many (agN (m (261 + 14 * t)) many) 0
def byteOk (f : Nat → Int) : Prop := ∀ q, -200 ≤ f q ∧ f q ≤ 200
set_option maxHeartbeats 4000000 in
set_option maxRecDepth 100000 in
theorem L_against {G : mG} {l : Launch} (d : Nat) {h : mH} {x s : Nat} {f4 f6 f8 f9 f10 f11 f12 f13 f14 f16 f18 : Int} {m kp was pool tape pln pap rwd rw : Nat → Int}(hB : isM h x (mFs x f4 f6 f8 f9 f10 f11 f12 f13 f14 f16 f18 s) m kp was pool tape pln pap rwd rw) (hok : mOk m) {rs fr t : Nat} {rc : Nat → Int} {b : Int} (hR : (rs = 4 ∧ rc = tape ∧ (fr : Int) + b ≤ 120) ∨ (rs = 0 ∧ rc = m ∧ (fr : Int) + b ≤ 2928)) (hb : 0 ≤ b) (ht : t ≤ 89) (h7 : 0 ≤ m (261 + 14 * t) ∧ m (261 + 14 * t) ≤ 7) (hn : ∀ k : Nat, k < 7 → -200 ≤ m (265 + 14 * t + k) ∧ m (265 + 14 * t + k) ≤ 200) (hc : ∀ k : Nat, (k : Int) < b → -200 ≤ rc (fr + k) ∧ rc (fr + k) ≤ 200) : ∀ (n k : Nat) (v7 : Option Value), k + n = agN (m (261 + 14 * t)) b → RUN G l (d + 1) mX11_against 16 [some (.ref x), some (.int (J (t : Int))), some (.ref (mAd x rs)), some (.int (J (fr : Int))), some (.int (J b)), some (.int (J (m (261 + 14 * t)))), some (.int (J (k : Int))), v7] [] h (fun v h' => v = some (.int (J (agL m rc t fr (m (261 + 14 * t)) b n k))) ∧ h' = h) := by
  have hag : (agN (m (261 + 14 * t)) b : Int) ≤ m (261 + 14 * t) ∧ (agN (m (261 + 14 * t)) b : Int) ≤ b ∧ ((agN (m (261 + 14 * t)) b : Int) = m (261 + 14 * t) ∨ (agN (m (261 + 14 * t)) b : Int) = b) := by unfold agN; split <;> omega
  have rb : InR b := by rcases hR with ⟨_, _, g⟩ | ⟨_, _, g⟩ <;> exact ⟨by omega, by omega⟩
  intro n
  induction n with
  | zero =>
    intro k v7 hk
    have hB0 := hB
    dsimp only [mFs] at hB
    refine r_iload (pc := 16) dX11_against_16 rfl ?_
    refine r_iload (pc := 18) dX11_against_18 rfl ?_
    refine rj_icmp_ge (pc := 20) (tgt := 66) dX11_against_20 (by decide) (by first | assumption | exact b01_r | exact bz_r | omega | (constructor <;> omega) | exact hM _ | exact hPo _ | exact hTa _ | exact hRo _) (by first | assumption | exact b01_r | exact bz_r | omega | (constructor <;> omega) | exact hM _ | exact hPo _ | exact hTa _ | exact hRo _) (fun c_20 => ?_) (fun c_20 => ?_)
    · refine r_iload (pc := 66) dX11_against_66 rfl ?_
      refine r_iload (pc := 68) dX11_against_68 rfl ?_
      refine rj_isub (pc := 70) dX11_against_70 ?_
      refine r_ireturn (pc := 71) .int dX11_against_71 rfl (by first | rfl | assumption) ?_
      exact ⟨rfl, rfl⟩
    · refine r_iload (pc := 23) dX11_against_23 rfl ?_
      refine r_iload (pc := 25) dX11_against_25 rfl ?_
      refine rj_icmp_ge (pc := 27) (tgt := 66) dX11_against_27 (by decide) (by first | assumption | exact b01_r | exact bz_r | omega | (constructor <;> omega) | exact hM _ | exact hPo _ | exact hTa _ | exact hRo _) (by first | assumption | exact b01_r | exact bz_r | omega | (constructor <;> omega) | exact hM _ | exact hPo _ | exact hTa _ | exact hRo _) (fun c_27 => ?_) (fun c_27 => ?_)
      · refine r_iload (pc := 66) dX11_against_66 rfl ?_
        refine r_iload (pc := 68) dX11_against_68 rfl ?_
        refine rj_isub (pc := 70) dX11_against_70 ?_
        refine r_ireturn (pc := 71) .int dX11_against_71 rfl (by first | rfl | assumption) ?_
        exact ⟨rfl, rfl⟩
      · exfalso; omega
  | succ n ih =>
    intro k v7 hk
    have hB0 := hB
    have g1 := hn k (by omega)
    have g2 := hc k (by omega)
    rcases hR with ⟨rfl, rfl, h3⟩ | ⟨rfl, rfl, h3⟩
    · dsimp only [mFs] at hB
      refine r_iload (pc := 16) dX11_against_16 rfl ?_
      refine r_iload (pc := 18) dX11_against_18 rfl ?_
      refine rj_icmp_ge (pc := 20) (tgt := 66) dX11_against_20 (by decide) (by first | assumption | exact b01_r | exact bz_r | omega | (constructor <;> omega) | exact hM _ | exact hPo _ | exact hTa _ | exact hRo _) (by first | assumption | exact b01_r | exact bz_r | omega | (constructor <;> omega) | exact hM _ | exact hPo _ | exact hTa _ | exact hRo _) (fun c_20 => ?_) (fun c_20 => ?_)
      · exfalso; omega
      · refine r_iload (pc := 23) dX11_against_23 rfl ?_
        refine r_iload (pc := 25) dX11_against_25 rfl ?_
        refine rj_icmp_ge (pc := 27) (tgt := 66) dX11_against_27 (by decide) (by first | assumption | exact b01_r | exact bz_r | omega | (constructor <;> omega) | exact hM _ | exact hPo _ | exact hTa _ | exact hRo _) (by first | assumption | exact b01_r | exact bz_r | omega | (constructor <;> omega) | exact hM _ | exact hPo _ | exact hTa _ | exact hRo _) (fun c_27 => ?_) (fun c_27 => ?_)
        · exfalso; omega
        · refine r_aload_n (pc := 30) dX11_against_30 rfl (by first | rfl | exact isRefV_rf _) ?_
          refine rm_getf (pc := 31) dX11_against_31 fX11_11 (by assumption) rfl ?_
          refine r_iload_n (pc := 34) dX11_against_34 rfl ?_
          refine rj_bipush (pc := 35) dX11_against_35 (by decide +kernel) ?_
          refine r_iload (pc := 37) dX11_against_37 rfl ?_
          refine r_callS3 (pc := 39) dX11_against_39 qX11_ofThing kX11_54 sX11_ofThing (Nat.le_of_ble_eq_true rfl) (m_ofThing _) (fun v_39 h_39 q_39 => ?_)
          obtain ⟨rfl, rfl⟩ := q_39
          refine rj_iald (pc := 42) (j := 265 + 14 * t + k) dX11_against_42 (by first | exact isM.g0 (by assumption) | exact isM.g3 (by assumption) | exact isM.g4 (by assumption) | exact isM.g8 (by assumption) | exact isM.g7 (by assumption) | exact isM.g6 (by assumption) | exact isM.g5 (by assumption) | exact isM.g1 (by assumption) | exact isM.g2 (by assumption)) (by first | assumption | exact b01_r | exact bz_r | omega | (constructor <;> omega) | exact hM _ | exact hPo _ | exact hTa _ | exact hRo _) (by first | assumption | exact b01_r | exact bz_r | omega | (constructor <;> omega) | exact hM _ | exact hPo _ | exact hTa _ | exact hRo _) (by first | assumption | exact b01_r | exact bz_r | omega | (constructor <;> omega) | exact hM _ | exact hPo _ | exact hTa _ | exact hRo _) (by omega) ?_
          refine r_aload_n (pc := 43) dX11_against_43 rfl (by first | rfl | exact isRefV_rf _) ?_
          refine r_iload_n (pc := 44) dX11_against_44 rfl ?_
          refine r_iload (pc := 45) dX11_against_45 rfl ?_
          refine rj_iadd (pc := 47) dX11_against_47 ?_
          refine rj_iald (pc := 48) (j := fr + k) dX11_against_48 (by first | exact isM.g0 (by assumption) | exact isM.g3 (by assumption) | exact isM.g4 (by assumption) | exact isM.g8 (by assumption) | exact isM.g7 (by assumption) | exact isM.g6 (by assumption) | exact isM.g5 (by assumption) | exact isM.g1 (by assumption) | exact isM.g2 (by assumption)) (by first | assumption | exact b01_r | exact bz_r | omega | (constructor <;> omega) | exact hM _ | exact hPo _ | exact hTa _ | exact hRo _) (by first | assumption | exact b01_r | exact bz_r | omega | (constructor <;> omega) | exact hM _ | exact hPo _ | exact hTa _ | exact hRo _) (by first | assumption | exact b01_r | exact bz_r | omega | (constructor <;> omega) | exact hM _ | exact hPo _ | exact hTa _ | exact hRo _) (by omega) ?_
          refine rj_isub (pc := 49) dX11_against_49 ?_
          refine r_istore (pc := 50) dX11_against_50 (Nat.le_of_ble_eq_true rfl) ?_
          dsimp only [lsSt, List.set, mLs, mEnt]
          refine r_iload (pc := 52) dX11_against_52 rfl ?_
          refine rj_if_eq (pc := 54) (tgt := 60) dX11_against_54 (by decide) (by first | assumption | exact b01_r | exact bz_r | omega | (constructor <;> omega) | exact hM _ | exact hPo _ | exact hTa _ | exact hRo _) (fun c_54 => ?_) (fun c_54 => ?_)
          · try simp only [b01_0, bz_0, Classical.not_not] at c_54
            refine rj_iinc (pc := 60) dX11_against_60 (Nat.le_of_ble_eq_true rfl) rfl ?_
            dsimp only [lsSt, List.set, mLs, mEnt]
            refine r_goto (pc := 63) (tgt := 16) dX11_against_63 (by decide) ?_
            rw [show ((k : Int) + 1) = ((k + 1 : Nat) : Int) by omega, agL, if_pos c_54]
            exact ih (k + 1) _ (by omega)
          · try simp only [b01_0, bz_0, Classical.not_not] at c_54
            refine r_iload (pc := 57) dX11_against_57 rfl ?_
            refine r_ireturn (pc := 59) .int dX11_against_59 rfl (by first | rfl | assumption) ?_
            exact ⟨by rw [agL, if_neg c_54], rfl⟩
    · dsimp only [mFs] at hB
      refine r_iload (pc := 16) dX11_against_16 rfl ?_
      refine r_iload (pc := 18) dX11_against_18 rfl ?_
      refine rj_icmp_ge (pc := 20) (tgt := 66) dX11_against_20 (by decide) (by first | assumption | exact b01_r | exact bz_r | omega | (constructor <;> omega) | exact hM _ | exact hPo _ | exact hTa _ | exact hRo _) (by first | assumption | exact b01_r | exact bz_r | omega | (constructor <;> omega) | exact hM _ | exact hPo _ | exact hTa _ | exact hRo _) (fun c_20 => ?_) (fun c_20 => ?_)
      · exfalso; omega
      · refine r_iload (pc := 23) dX11_against_23 rfl ?_
        refine r_iload (pc := 25) dX11_against_25 rfl ?_
        refine rj_icmp_ge (pc := 27) (tgt := 66) dX11_against_27 (by decide) (by first | assumption | exact b01_r | exact bz_r | omega | (constructor <;> omega) | exact hM _ | exact hPo _ | exact hTa _ | exact hRo _) (by first | assumption | exact b01_r | exact bz_r | omega | (constructor <;> omega) | exact hM _ | exact hPo _ | exact hTa _ | exact hRo _) (fun c_27 => ?_) (fun c_27 => ?_)
        · exfalso; omega
        · refine r_aload_n (pc := 30) dX11_against_30 rfl (by first | rfl | exact isRefV_rf _) ?_
          refine rm_getf (pc := 31) dX11_against_31 fX11_11 (by assumption) rfl ?_
          refine r_iload_n (pc := 34) dX11_against_34 rfl ?_
          refine rj_bipush (pc := 35) dX11_against_35 (by decide +kernel) ?_
          refine r_iload (pc := 37) dX11_against_37 rfl ?_
          refine r_callS3 (pc := 39) dX11_against_39 qX11_ofThing kX11_54 sX11_ofThing (Nat.le_of_ble_eq_true rfl) (m_ofThing _) (fun v_39 h_39 q_39 => ?_)
          obtain ⟨rfl, rfl⟩ := q_39
          refine rj_iald (pc := 42) (j := 265 + 14 * t + k) dX11_against_42 (by first | exact isM.g0 (by assumption) | exact isM.g3 (by assumption) | exact isM.g4 (by assumption) | exact isM.g8 (by assumption) | exact isM.g7 (by assumption) | exact isM.g6 (by assumption) | exact isM.g5 (by assumption) | exact isM.g1 (by assumption) | exact isM.g2 (by assumption)) (by first | assumption | exact b01_r | exact bz_r | omega | (constructor <;> omega) | exact hM _ | exact hPo _ | exact hTa _ | exact hRo _) (by first | assumption | exact b01_r | exact bz_r | omega | (constructor <;> omega) | exact hM _ | exact hPo _ | exact hTa _ | exact hRo _) (by first | assumption | exact b01_r | exact bz_r | omega | (constructor <;> omega) | exact hM _ | exact hPo _ | exact hTa _ | exact hRo _) (by omega) ?_
          refine r_aload_n (pc := 43) dX11_against_43 rfl (by first | rfl | exact isRefV_rf _) ?_
          refine r_iload_n (pc := 44) dX11_against_44 rfl ?_
          refine r_iload (pc := 45) dX11_against_45 rfl ?_
          refine rj_iadd (pc := 47) dX11_against_47 ?_
          refine rj_iald (pc := 48) (j := fr + k) dX11_against_48 (by first | exact isM.g0 (by assumption) | exact isM.g3 (by assumption) | exact isM.g4 (by assumption) | exact isM.g8 (by assumption) | exact isM.g7 (by assumption) | exact isM.g6 (by assumption) | exact isM.g5 (by assumption) | exact isM.g1 (by assumption) | exact isM.g2 (by assumption)) (by first | assumption | exact b01_r | exact bz_r | omega | (constructor <;> omega) | exact hM _ | exact hPo _ | exact hTa _ | exact hRo _) (by first | assumption | exact b01_r | exact bz_r | omega | (constructor <;> omega) | exact hM _ | exact hPo _ | exact hTa _ | exact hRo _) (by first | assumption | exact b01_r | exact bz_r | omega | (constructor <;> omega) | exact hM _ | exact hPo _ | exact hTa _ | exact hRo _) (by omega) ?_
          refine rj_isub (pc := 49) dX11_against_49 ?_
          refine r_istore (pc := 50) dX11_against_50 (Nat.le_of_ble_eq_true rfl) ?_
          dsimp only [lsSt, List.set, mLs, mEnt]
          refine r_iload (pc := 52) dX11_against_52 rfl ?_
          refine rj_if_eq (pc := 54) (tgt := 60) dX11_against_54 (by decide) (by first | assumption | exact b01_r | exact bz_r | omega | (constructor <;> omega) | exact hM _ | exact hPo _ | exact hTa _ | exact hRo _) (fun c_54 => ?_) (fun c_54 => ?_)
          · try simp only [b01_0, bz_0, Classical.not_not] at c_54
            refine rj_iinc (pc := 60) dX11_against_60 (Nat.le_of_ble_eq_true rfl) rfl ?_
            dsimp only [lsSt, List.set, mLs, mEnt]
            refine r_goto (pc := 63) (tgt := 16) dX11_against_63 (by decide) ?_
            rw [show ((k : Int) + 1) = ((k + 1 : Nat) : Int) by omega, agL, if_pos c_54]
            exact ih (k + 1) _ (by omega)
          · try simp only [b01_0, bz_0, Classical.not_not] at c_54
            refine r_iload (pc := 57) dX11_against_57 rfl ?_
            refine r_ireturn (pc := 59) .int dX11_against_59 rfl (by first | rfl | assumption) ?_
            exact ⟨by rw [agL, if_neg c_54], rfl⟩
set_option maxHeartbeats 4000000 in
set_option maxRecDepth 100000 in
theorem m_against {G : mG} {l : Launch} (d : Nat) {h : mH} {x s : Nat} {f4 f6 f8 f9 f10 f11 f12 f13 f14 f16 f18 : Int} {m kp was pool tape pln pap rwd rw : Nat → Int}(hB : isM h x (mFs x f4 f6 f8 f9 f10 f11 f12 f13 f14 f16 f18 s) m kp was pool tape pln pap rwd rw) (hok : mOk m) {rs fr t : Nat} {rc : Nat → Int} {b : Int} (hR : (rs = 4 ∧ rc = tape ∧ (fr : Int) + b ≤ 120) ∨ (rs = 0 ∧ rc = m ∧ (fr : Int) + b ≤ 2928)) (hb : 0 ≤ b) (ht : t ≤ 89) (h7 : 0 ≤ m (261 + 14 * t) ∧ m (261 + 14 * t) ≤ 7) (hn : ∀ k : Nat, k < 7 → -200 ≤ m (265 + 14 * t + k) ∧ m (265 + 14 * t + k) ≤ 200) (hc : ∀ k : Nat, (k : Int) < b → -200 ≤ rc (fr + k) ∧ rc (fr + k) ≤ 200) : RUNM G l (d + 1) mX11_against [.ref x, .int (J (t : Int)), .ref (mAd x rs), .int (J (fr : Int)), .int (J b)] h (fun v h' => v = some (.int (J (agV m rc t fr b))) ∧ h' = h) := by
  have hB0 := hB
  dsimp only [mFs] at hB
  refine RUNM.of (by decide +kernel) (Nat.le_of_ble_eq_true rfl) ?_
  refine r_aload_n (pc := 0) dX11_against_0 rfl (by first | rfl | exact isRefV_rf _) ?_
  refine rm_getf (pc := 1) dX11_against_1 fX11_11 (by assumption) rfl ?_
  refine r_iload_n (pc := 4) dX11_against_4 rfl ?_
  refine rj_iconst (pc := 5) dX11_against_5 ?_
  refine rj_iconst (pc := 6) dX11_against_6 ?_
  refine r_callS3 (pc := 7) dX11_against_7 qX11_ofThing kX11_54 sX11_ofThing (Nat.le_of_ble_eq_true rfl) (m_ofThing d) (fun v_7 h_7 q_7 => ?_)
  obtain ⟨rfl, rfl⟩ := q_7
  refine rj_iald (pc := 10) (j := 261 + 14 * t) dX11_against_10 (by first | exact isM.g0 (by assumption) | exact isM.g3 (by assumption) | exact isM.g4 (by assumption) | exact isM.g8 (by assumption) | exact isM.g7 (by assumption) | exact isM.g6 (by assumption) | exact isM.g5 (by assumption) | exact isM.g1 (by assumption) | exact isM.g2 (by assumption)) (by first | assumption | exact b01_r | exact bz_r | omega | (constructor <;> omega) | exact hM _ | exact hPo _ | exact hTa _ | exact hRo _) (by first | assumption | exact b01_r | exact bz_r | omega | (constructor <;> omega) | exact hM _ | exact hPo _ | exact hTa _ | exact hRo _) (by first | assumption | exact b01_r | exact bz_r | omega | (constructor <;> omega) | exact hM _ | exact hPo _ | exact hTa _ | exact hRo _) (by omega) ?_
  refine r_istore (pc := 11) dX11_against_11 (Nat.le_of_ble_eq_true rfl) ?_
  dsimp only [lsSt, List.set, mLs, mEnt]
  refine rj_iconst (pc := 13) dX11_against_13 ?_
  refine r_istore (pc := 14) dX11_against_14 (Nat.le_of_ble_eq_true rfl) ?_
  dsimp only [lsSt, List.set, mLs, mEnt]
  exact L_against d hB0 hok hR hb ht h7 hn hc (agN (m (261 + 14 * t)) b) 0 none (by omega)
/-- how the names of two things stand -/
def agT (m : Nat → Int) (t o : Nat) : Int := agV m m t (265 + 14 * o) (m (261 + 14 * o))
set_option maxHeartbeats 4000000 in
set_option maxRecDepth 100000 in
theorem m_against2 {G : mG} {l : Launch} (d : Nat) {h : mH} {x s : Nat} {f4 f6 f8 f9 f10 f11 f12 f13 f14 f16 f18 : Int} {m kp was pool tape pln pap rwd rw : Nat → Int}(hB : isM h x (mFs x f4 f6 f8 f9 f10 f11 f12 f13 f14 f16 f18 s) m kp was pool tape pln pap rwd rw) (hok : mOk m) {N : Nat} (hN : m 1 = (N : Int)) (hnm : ∀ t : Nat, t < N → (0 ≤ m (261 + 14 * t) ∧ m (261 + 14 * t) ≤ 7) ∧ ∀ k : Nat, k < 7 → -200 ≤ m (265 + 14 * t + k) ∧ m (265 + 14 * t + k) ≤ 200) {t o : Nat} (ht : t < N) (ho : o < N) : RUNM G l (d + 2) mX11_against_ [.ref x, .int (J (t : Int)), .int (J (o : Int))] h (fun v h' => v = some (.int (J (agT m t o))) ∧ h' = h) := by
  have hB0 := hB
  dsimp only [mFs] at hB
  refine RUNM.of (by decide +kernel) (Nat.le_of_ble_eq_true rfl) ?_
  have hk1 := hok.2.2.1
  obtain ⟨g1, g2⟩ := hnm t ht
  obtain ⟨g3, g4⟩ := hnm o ho
  refine r_aload_n (pc := 0) dX11_against__0 rfl (by first | rfl | exact isRefV_rf _) ?_
  refine r_iload_n (pc := 1) dX11_against__1 rfl ?_
  refine r_aload_n (pc := 2) dX11_against__2 rfl (by first | rfl | exact isRefV_rf _) ?_
  refine rm_getf (pc := 3) dX11_against__3 fX11_11 (by assumption) rfl ?_
  refine r_iload_n (pc := 6) dX11_against__6 rfl ?_
  refine rj_bipush (pc := 7) dX11_against__7 (by decide +kernel) ?_
  refine rj_iconst (pc := 9) dX11_against__9 ?_
  refine r_callS3 (pc := 10) dX11_against__10 qX11_ofThing kX11_54 sX11_ofThing (Nat.le_of_ble_eq_true rfl) (m_ofThing (d + 1)) (fun v_10 h_10 q_10 => ?_)
  obtain ⟨rfl, rfl⟩ := q_10
  refine r_aload_n (pc := 13) dX11_against__13 rfl (by first | rfl | exact isRefV_rf _) ?_
  refine rm_getf (pc := 14) dX11_against__14 fX11_11 (by assumption) rfl ?_
  refine r_iload_n (pc := 17) dX11_against__17 rfl ?_
  refine rj_iconst (pc := 18) dX11_against__18 ?_
  refine rj_iconst (pc := 19) dX11_against__19 ?_
  refine r_callS3 (pc := 20) dX11_against__20 qX11_ofThing kX11_54 sX11_ofThing (Nat.le_of_ble_eq_true rfl) (m_ofThing (d + 1)) (fun v_20 h_20 q_20 => ?_)
  obtain ⟨rfl, rfl⟩ := q_20
  refine rj_iald (pc := 23) (j := 261 + 14 * o) dX11_against__23 (by first | exact isM.g0 (by assumption) | exact isM.g3 (by assumption) | exact isM.g4 (by assumption) | exact isM.g8 (by assumption) | exact isM.g7 (by assumption) | exact isM.g6 (by assumption) | exact isM.g5 (by assumption) | exact isM.g1 (by assumption) | exact isM.g2 (by assumption)) (by first | assumption | exact b01_r | exact bz_r | omega | (constructor <;> omega) | exact hM _ | exact hPo _ | exact hTa _ | exact hRo _) (by first | assumption | exact b01_r | exact bz_r | omega | (constructor <;> omega) | exact hM _ | exact hPo _ | exact hTa _ | exact hRo _) (by first | assumption | exact b01_r | exact bz_r | omega | (constructor <;> omega) | exact hM _ | exact hPo _ | exact hTa _ | exact hRo _) (by omega) ?_
  refine r_callV4 (pc := 24) dX11_against__24 qX11_against kX11_264 vX11_against (by exact isM.gx (by assumption)) rfl rfl (Nat.le_of_ble_eq_true rfl) (by have y := m_against (G := G) (l := l) d hB0 hok (rs := 0) (fr := 265 + 14 * o) (t := t) (rc := m) (b := m (261 + 14 * o)) (Or.inr ⟨rfl, rfl, by omega⟩) g3.1 (by omega) g1 g2 (fun k hk => g4 k (by omega)); rw [show ((265 + 14 * o : Nat) : Int) = 258 + 14 * (o : Int) + 7 + 0 by omega] at y; exact y) (fun v_24 h_24 q_24 => ?_)
  obtain ⟨rfl, rfl⟩ := q_24
  refine r_ireturn (pc := 27) .int dX11_against__27 rfl (by first | rfl | assumption) ?_
  exact ⟨rfl, rfl⟩
theorem agL_r {m rc : Nat → Int} {t fr : Nat} {own many : Int} (h1 : -200 ≤ own - many ∧ own - many ≤ 200) (hn : ∀ k : Nat, k < 7 → -200 ≤ m (265 + 14 * t + k) ∧ m (265 + 14 * t + k) ≤ 200) (hc : ∀ k : Nat, (k : Int) < many → -200 ≤ rc (fr + k) ∧ rc (fr + k) ≤ 200) : ∀ n k : Nat, k + n ≤ 7 → (k : Int) + n ≤ many → -400 ≤ agL m rc t fr own many n k ∧ agL m rc t fr own many n k ≤ 400
  | 0, k, _, _ => by unfold agL; omega
  | n + 1, k, g, g2 => by
    unfold agL
    have q1 := hn k (by omega)
    have q2 := hc k (by omega)
    split
    · exact agL_r h1 hn hc n (k + 1) (by omega) (by omega)
    · omega
theorem agV_r {m rc : Nat → Int} {t fr : Nat} {many : Int} (h0 : 0 ≤ many ∧ many ≤ 120) (h7 : 0 ≤ m (261 + 14 * t) ∧ m (261 + 14 * t) ≤ 7) (hn : ∀ k : Nat, k < 7 → -200 ≤ m (265 + 14 * t + k) ∧ m (265 + 14 * t + k) ≤ 200) (hc : ∀ k : Nat, (k : Int) < many → -200 ≤ rc (fr + k) ∧ rc (fr + k) ≤ 200) : InR (agV m rc t fr many) := by
  have hag : (agN (m (261 + 14 * t)) many : Int) ≤ m (261 + 14 * t) ∧ (agN (m (261 + 14 * t)) many : Int) ≤ many := by unfold agN; split <;> omega
  have := agL_r (m := m) (rc := rc) (t := t) (fr := fr) (own := m (261 + 14 * t)) (many := many) (by omega) hn hc (agN (m (261 + 14 * t)) many) 0 (by omega) (by omega)
  unfold agV
  exact ⟨by omega, by omega⟩
theorem agT_r {m : Nat → Int} {N t o : Nat} (hnm : ∀ t : Nat, t < N → (0 ≤ m (261 + 14 * t) ∧ m (261 + 14 * t) ≤ 7) ∧ ∀ k : Nat, k < 7 → -200 ≤ m (265 + 14 * t + k) ∧ m (265 + 14 * t + k) ≤ 200) (ht : t < N) (ho : o < N) : InR (agT m t o) := by
  obtain ⟨g1, g2⟩ := hnm t ht
  obtain ⟨g3, g4⟩ := hnm o ho
  exact agV_r ⟨g3.1, by omega⟩ g1 g2 (fun k hk => g4 k (by omega))
def frL (m tape : Nat → Int) (b : Int) : Nat → Nat → Int → Int
  | 0, _, f => f
  | n + 1, t, f => frL m tape b n (t + 1) (if heldB m t = true ∧ 0 ≤ agV m tape t 0 b ∧ (f < 0 ∨ agT m t f.toNat < 0) then (t : Int) else f)
set_option maxHeartbeats 4000000 in
set_option maxRecDepth 100000 in
theorem L_from {G : mG} {l : Launch} (d : Nat) {h : mH} {x s : Nat} {f4 f6 f8 f9 f10 f11 f12 f13 f14 f16 f18 : Int} {m kp was pool tape pln pap rwd rw : Nat → Int}(hB : isM h x (mFs x f4 f6 f8 f9 f10 f11 f12 f13 f14 f16 f18 s) m kp was pool tape pln pap rwd rw) (hok : mOk m) {N : Nat} (hN : m 1 = (N : Int)) (hnm : ∀ t : Nat, t < N → (0 ≤ m (261 + 14 * t) ∧ m (261 + 14 * t) ≤ 7) ∧ ∀ k : Nat, k < 7 → -200 ≤ m (265 + 14 * t + k) ∧ m (265 + 14 * t + k) ≤ 200) {b : Int} (h6 : 0 ≤ b ∧ b ≤ 120) (hta : ∀ k : Nat, (k : Int) < b → -200 ≤ tape k ∧ tape k ≤ 200) : ∀ (n t : Nat) (f : Int), t + n = N → f < t → -5 ≤ f → RUN G l (d + 3) mX11_from 15 [some (.ref x), some (.int (J b)), some (.int (J f)), some (.int (J (t : Int)))] [] h (fun v h' => v = some (.int (J (frL m tape b n t f))) ∧ h' = h) := by
  obtain ⟨hM, k0, k1, k2, k3, k4, k5, k7⟩ := id hok
  intro n
  induction n with
  | zero =>
    intro t f ht hf hf2
    have hB0 := hB
    dsimp only [mFs] at hB
    refine r_iload_n (pc := 15) dX11_from_15 rfl ?_
    refine r_aload_n (pc := 16) dX11_from_16 rfl (by first | rfl | exact isRefV_rf _) ?_
    refine rm_getf (pc := 17) dX11_from_17 fX11_11 (by assumption) rfl ?_
    refine rj_iconst (pc := 20) dX11_from_20 ?_
    refine rj_iald (pc := 21) (j := 1) dX11_from_21 (by first | exact isM.g0 (by assumption) | exact isM.g3 (by assumption) | exact isM.g4 (by assumption) | exact isM.g8 (by assumption) | exact isM.g7 (by assumption) | exact isM.g6 (by assumption) | exact isM.g5 (by assumption) | exact isM.g1 (by assumption) | exact isM.g2 (by assumption)) (by first | assumption | exact b01_r | exact bz_r | omega | (constructor <;> omega) | exact hM _ | exact hPo _ | exact hTa _ | exact hRo _) (by first | assumption | exact b01_r | exact bz_r | omega | (constructor <;> omega) | exact hM _ | exact hPo _ | exact hTa _ | exact hRo _) (by first | assumption | exact b01_r | exact bz_r | omega | (constructor <;> omega) | exact hM _ | exact hPo _ | exact hTa _ | exact hRo _) (by omega) ?_
    refine rj_icmp_ge (pc := 22) (tgt := 68) dX11_from_22 (by decide) (by first | assumption | exact b01_r | exact bz_r | omega | (constructor <;> omega) | exact hM _ | exact hPo _ | exact hTa _ | exact hRo _) (by first | assumption | exact b01_r | exact bz_r | omega | (constructor <;> omega) | exact hM _ | exact hPo _ | exact hTa _ | exact hRo _) (fun c_22 => ?_) (fun c_22 => ?_)
    · refine r_iload_n (pc := 68) dX11_from_68 rfl ?_
      refine r_ireturn (pc := 69) .int dX11_from_69 rfl (by first | rfl | assumption) ?_
      exact ⟨rfl, rfl⟩
    · exfalso; omega
  | succ n ih =>
    intro t f ht hf hf2
    have hB0 := hB
    obtain ⟨g1, g2⟩ := hnm t (by omega)
    have ra : InR (agV m tape t 0 b) := agV_r h6 g1 g2 (fun k hk => by rw [Nat.zero_add]; exact hta k hk)
    have rt : 0 ≤ f → InR (agT m t f.toNat) := fun q => agT_r hnm (by omega) (by omega)
    dsimp only [mFs] at hB
    refine r_iload_n (pc := 15) dX11_from_15 rfl ?_
    refine r_aload_n (pc := 16) dX11_from_16 rfl (by first | rfl | exact isRefV_rf _) ?_
    refine rm_getf (pc := 17) dX11_from_17 fX11_11 (by assumption) rfl ?_
    refine rj_iconst (pc := 20) dX11_from_20 ?_
    refine rj_iald (pc := 21) (j := 1) dX11_from_21 (by first | exact isM.g0 (by assumption) | exact isM.g3 (by assumption) | exact isM.g4 (by assumption) | exact isM.g8 (by assumption) | exact isM.g7 (by assumption) | exact isM.g6 (by assumption) | exact isM.g5 (by assumption) | exact isM.g1 (by assumption) | exact isM.g2 (by assumption)) (by first | assumption | exact b01_r | exact bz_r | omega | (constructor <;> omega) | exact hM _ | exact hPo _ | exact hTa _ | exact hRo _) (by first | assumption | exact b01_r | exact bz_r | omega | (constructor <;> omega) | exact hM _ | exact hPo _ | exact hTa _ | exact hRo _) (by first | assumption | exact b01_r | exact bz_r | omega | (constructor <;> omega) | exact hM _ | exact hPo _ | exact hTa _ | exact hRo _) (by omega) ?_
    refine rj_icmp_ge (pc := 22) (tgt := 68) dX11_from_22 (by decide) (by first | assumption | exact b01_r | exact bz_r | omega | (constructor <;> omega) | exact hM _ | exact hPo _ | exact hTa _ | exact hRo _) (by first | assumption | exact b01_r | exact bz_r | omega | (constructor <;> omega) | exact hM _ | exact hPo _ | exact hTa _ | exact hRo _) (fun c_22 => ?_) (fun c_22 => ?_)
    · exfalso; omega
    · refine r_aload_n (pc := 25) dX11_from_25 rfl (by first | rfl | exact isRefV_rf _) ?_
      refine r_iload_n (pc := 26) dX11_from_26 rfl ?_
      refine r_callV1 (pc := 27) dX11_from_27 qX11_isHeld kX11_119 vX11_isHeld (by exact isM.gx (by assumption)) rfl rfl (Nat.le_of_ble_eq_true rfl) (m_isHeld (d + 1) hB0 hM (by omega) (by omega)) (fun v_27 h_27 q_27 => ?_)
      obtain ⟨rfl, rfl⟩ := q_27
      refine rj_if_eq (pc := 30) (tgt := 62) dX11_from_30 (by decide) (by first | assumption | exact b01_r | exact bz_r | omega | (constructor <;> omega) | exact hM _ | exact hPo _ | exact hTa _ | exact hRo _) (fun c_30 => ?_) (fun c_30 => ?_)
      · try simp only [b01_0, bz_0, Classical.not_not] at c_30
        refine rj_iinc (pc := 62) dX11_from_62 (Nat.le_of_ble_eq_true rfl) rfl ?_
        dsimp only [lsSt, List.set, mLs, mEnt]
        refine r_goto (pc := 65) (tgt := 15) dX11_from_65 (by decide) ?_
        have z := ih (t + 1) f (by omega) (by omega) hf2
        rw [frL, if_neg (fun g => c_30 (by have := g.1; simp only [heldB, decide_eq_true_eq] at this; rw [n_held]; exact this))]
        exact z
      · try simp only [b01_0, bz_0, Classical.not_not] at c_30
        refine r_aload_n (pc := 33) dX11_from_33 rfl (by first | rfl | exact isRefV_rf _) ?_
        refine r_iload_n (pc := 34) dX11_from_34 rfl ?_
        refine r_aload_n (pc := 35) dX11_from_35 rfl (by first | rfl | exact isRefV_rf _) ?_
        refine rm_getf (pc := 36) dX11_from_36 fX11_24 (by assumption) rfl ?_
        refine rj_iconst (pc := 39) dX11_from_39 ?_
        refine r_iload_n (pc := 40) dX11_from_40 rfl ?_
        refine r_callV4 (pc := 41) dX11_from_41 qX11_against kX11_264 vX11_against (by exact isM.gx (by assumption)) rfl rfl (Nat.le_of_ble_eq_true rfl) (by have y := m_against (G := G) (l := l) (d + 1) hB0 hok (rs := 4) (fr := 0) (t := t) (rc := tape) (b := b) (Or.inl ⟨rfl, rfl, by omega⟩) h6.1 (by omega) g1 g2 (fun k hk => by rw [Nat.zero_add]; exact hta k hk); exact y) (fun v_41 h_41 q_41 => ?_)
        obtain ⟨rfl, rfl⟩ := q_41
        refine rj_if_lt (pc := 44) (tgt := 62) dX11_from_44 (by decide) (by first | assumption | exact b01_r | exact bz_r | omega | (constructor <;> omega) | exact hM _ | exact hPo _ | exact hTa _ | exact hRo _) (fun c_44 => ?_) (fun c_44 => ?_)
        · refine rj_iinc (pc := 62) dX11_from_62 (Nat.le_of_ble_eq_true rfl) rfl ?_
          dsimp only [lsSt, List.set, mLs, mEnt]
          refine r_goto (pc := 65) (tgt := 15) dX11_from_65 (by decide) ?_
          have z := ih (t + 1) f (by omega) (by omega) hf2
          rw [frL, if_neg (fun g => absurd g.2.1 (by omega))]
          exact z
        · refine r_iload_n (pc := 47) dX11_from_47 rfl ?_
          refine rj_if_lt (pc := 48) (tgt := 60) dX11_from_48 (by decide) (by first | assumption | exact b01_r | exact bz_r | omega | (constructor <;> omega) | exact hM _ | exact hPo _ | exact hTa _ | exact hRo _) (fun c_48 => ?_) (fun c_48 => ?_)
          · refine r_iload_n (pc := 60) dX11_from_60 rfl ?_
            refine r_istore_n (pc := 61) dX11_from_61 (Nat.le_of_ble_eq_true rfl) ?_
            dsimp only [lsSt, List.set, mLs, mEnt]
            refine rj_iinc (pc := 62) dX11_from_62 (Nat.le_of_ble_eq_true rfl) rfl ?_
            dsimp only [lsSt, List.set, mLs, mEnt]
            refine r_goto (pc := 65) (tgt := 15) dX11_from_65 (by decide) ?_
            have z := ih (t + 1) (t : Int) (by omega) (by omega) (by omega)
            rw [frL, if_pos ⟨by simp only [heldB, decide_eq_true_eq]; rw [n_held] at c_30; exact c_30, by omega, Or.inl c_48⟩]
            exact z
          · refine r_aload_n (pc := 51) dX11_from_51 rfl (by first | rfl | exact isRefV_rf _) ?_
            refine r_iload_n (pc := 52) dX11_from_52 rfl ?_
            refine r_iload_n (pc := 53) dX11_from_53 rfl ?_
            have rt2 := rt (by omega)
            refine r_callV2 (pc := 54) dX11_from_54 qX11_against_ kX11_268 vX11_against_ (by exact isM.gx (by assumption)) rfl rfl (Nat.le_of_ble_eq_true rfl) (by rw [show f = ((f.toNat : Nat) : Int) by omega]; exact m_against2 d hB0 hok hN hnm (t := t) (o := f.toNat) (by omega) (by omega)) (fun v_54 h_54 q_54 => ?_)
            obtain ⟨rfl, rfl⟩ := q_54
            refine rj_if_ge (pc := 57) (tgt := 62) dX11_from_57 (by decide) (by first | assumption | exact b01_r | exact bz_r | omega | (constructor <;> omega) | exact hM _ | exact hPo _ | exact hTa _ | exact hRo _) (fun c_57 => ?_) (fun c_57 => ?_)
            · refine rj_iinc (pc := 62) dX11_from_62 (Nat.le_of_ble_eq_true rfl) rfl ?_
              dsimp only [lsSt, List.set, mLs, mEnt]
              refine r_goto (pc := 65) (tgt := 15) dX11_from_65 (by decide) ?_
              have z := ih (t + 1) f (by omega) (by omega) hf2
              rw [frL, if_neg (fun g => g.2.2.elim c_48 (by omega))]
              exact z
            · refine r_iload_n (pc := 60) dX11_from_60 rfl ?_
              refine r_istore_n (pc := 61) dX11_from_61 (Nat.le_of_ble_eq_true rfl) ?_
              dsimp only [lsSt, List.set, mLs, mEnt]
              refine rj_iinc (pc := 62) dX11_from_62 (Nat.le_of_ble_eq_true rfl) rfl ?_
              dsimp only [lsSt, List.set, mLs, mEnt]
              refine r_goto (pc := 65) (tgt := 15) dX11_from_65 (by decide) ?_
              have z := ih (t + 1) (t : Int) (by omega) (by omega) (by omega)
              rw [frL, if_pos ⟨by simp only [heldB, decide_eq_true_eq]; rw [n_held] at c_30; exact c_30, by omega, Or.inr (by omega)⟩]
              exact z
set_option maxHeartbeats 4000000 in
set_option maxRecDepth 100000 in
theorem m_from {G : mG} {l : Launch} (d : Nat) {h : mH} {x s : Nat} {f4 f6 f8 f9 f10 f11 f12 f13 f14 f16 f18 : Int} {m kp was pool tape pln pap rwd rw : Nat → Int}(hB : isM h x (mFs x f4 f6 f8 f9 f10 f11 f12 f13 f14 f16 f18 s) m kp was pool tape pln pap rwd rw) (hok : mOk m) {N : Nat} (hN : m 1 = (N : Int)) (hnm : ∀ t : Nat, t < N → (0 ≤ m (261 + 14 * t) ∧ m (261 + 14 * t) ≤ 7) ∧ ∀ k : Nat, k < 7 → -200 ≤ m (265 + 14 * t + k) ∧ m (265 + 14 * t + k) ≤ 200) (h6 : 0 ≤ f6 ∧ f6 ≤ 120) (hta : ∀ k : Nat, (k : Int) < f6 → -200 ≤ tape k ∧ tape k ≤ 200) : RUNM G l (d + 3) mX11_from [.ref x] h (fun v h' => v = some (.int (J (frL m tape f6 N 0 (-5)))) ∧ isM h' x (mFs x f4 0 f8 f9 f10 f11 f12 f13 f14 f16 f18 s) m kp was pool tape pln pap rwd rw ∧ Same (mBlk x) h h') := by
  have hB0 := hB
  dsimp only [mFs] at hB
  refine RUNM.of (by decide +kernel) (Nat.le_of_ble_eq_true rfl) ?_
  refine r_aload_n (pc := 0) dX11_from_0 rfl (by first | rfl | exact isRefV_rf _) ?_
  refine rm_getf (pc := 1) dX11_from_1 fX11_61 (by assumption) rfl ?_
  refine r_istore_n (pc := 4) dX11_from_4 (Nat.le_of_ble_eq_true rfl) ?_
  dsimp only [lsSt, List.set, mLs, mEnt]
  refine r_aload_n (pc := 5) dX11_from_5 rfl (by first | rfl | exact isRefV_rf _) ?_
  refine rj_iconst (pc := 6) dX11_from_6 ?_
  refine rm_putf (pc := 7) dX11_from_7 fX11_61 (by assumption) rfl rfl (Nat.le_of_ble_eq_true rfl) (fun h_7 hB_7 hS_7 => ?_)
  dsimp only [List.set, mFs] at hB_7
  refine rj_bipush (pc := 10) dX11_from_10 (by decide +kernel) ?_
  refine r_istore_n (pc := 12) dX11_from_12 (Nat.le_of_ble_eq_true rfl) ?_
  dsimp only [lsSt, List.set, mLs, mEnt]
  refine rj_iconst (pc := 13) dX11_from_13 ?_
  refine r_istore_n (pc := 14) dX11_from_14 (Nat.le_of_ble_eq_true rfl) ?_
  dsimp only [lsSt, List.set, mLs, mEnt]
  exact (L_from d (show isM h_7 x (mFs x f4 0 f8 f9 f10 f11 f12 f13 f14 f16 f18 s) m kp was pool tape pln pap rwd rw from hB_7) hok hN hnm h6 hta N 0 (-5) (by omega) (by omega) (by omega)).mono (fun v h' q => ⟨q.1, q.2 ▸ hB_7, q.2 ▸ hS_7⟩)
def nmB (m : Nat → Int) (t o : Nat) : Bool := heldB m o && decide (agT m o t < 0)
def bnL (m : Nat → Int) (N : Nat) (i : Int) : Nat → Nat → Int
  | 0, _ => -1
  | n + 1, t => if heldB m t = true ∧ cnt (nmB m t) N = i then (t : Int) else bnL m N i n (t + 1)
set_option maxHeartbeats 4000000 in
set_option maxRecDepth 100000 in
theorem L_byName2 {G : mG} {l : Launch} (d : Nat) {h : mH} {x s : Nat} {f4 f6 f8 f9 f10 f11 f12 f13 f14 f16 f18 : Int} {m kp was pool tape pln pap rwd rw : Nat → Int}(hB : isM h x (mFs x f4 f6 f8 f9 f10 f11 f12 f13 f14 f16 f18 s) m kp was pool tape pln pap rwd rw) (hok : mOk m) {N : Nat} (hN : m 1 = (N : Int)) (hnm : ∀ t : Nat, t < N → (0 ≤ m (261 + 14 * t) ∧ m (261 + 14 * t) ≤ 7) ∧ ∀ k : Nat, k < 7 → -200 ≤ m (265 + 14 * t + k) ∧ m (265 + 14 * t + k) ≤ 200) {i : Int} {t : Nat} (ht : t < N) {Q : Option Value → mH → Prop} (K : RUN G l (d + 3) mX11_byName 61 [some (.ref x), some (.int (J i)), some (.int (J (t : Int))), some (.int (J (cnt (nmB m t) N))), some (.int (J (N : Int)))] [] h Q) : ∀ (n o : Nat), o + n = N → RUN G l (d + 3) mX11_byName 17 [some (.ref x), some (.int (J i)), some (.int (J (t : Int))), some (.int (J (cnt (nmB m t) o))), some (.int (J (o : Int)))] [] h Q := by
  obtain ⟨hM, k0, k1, k2, k3, k4, k5, k7⟩ := id hok
  intro n
  induction n with
  | zero =>
    intro o ho
    have hB0 := hB
    dsimp only [mFs] at hB
    obtain rfl : o = N := by omega
    refine r_iload (pc := 17) dX11_byName_17 rfl ?_
    refine r_aload_n (pc := 19) dX11_byName_19 rfl (by first | rfl | exact isRefV_rf _) ?_
    refine rm_getf (pc := 20) dX11_byName_20 fX11_11 (by assumption) rfl ?_
    refine rj_iconst (pc := 23) dX11_byName_23 ?_
    refine rj_iald (pc := 24) (j := 1) dX11_byName_24 (by first | exact isM.g0 (by assumption) | exact isM.g3 (by assumption) | exact isM.g4 (by assumption) | exact isM.g8 (by assumption) | exact isM.g7 (by assumption) | exact isM.g6 (by assumption) | exact isM.g5 (by assumption) | exact isM.g1 (by assumption) | exact isM.g2 (by assumption)) (by first | assumption | exact b01_r | exact bz_r | omega | (constructor <;> omega) | exact hM _ | exact hPo _ | exact hTa _ | exact hRo _) (by first | assumption | exact b01_r | exact bz_r | omega | (constructor <;> omega) | exact hM _ | exact hPo _ | exact hTa _ | exact hRo _) (by first | assumption | exact b01_r | exact bz_r | omega | (constructor <;> omega) | exact hM _ | exact hPo _ | exact hTa _ | exact hRo _) (by omega) ?_
    refine rj_icmp_ge (pc := 25) (tgt := 61) dX11_byName_25 (by decide) (by first | assumption | exact b01_r | exact bz_r | omega | (constructor <;> omega) | exact hM _ | exact hPo _ | exact hTa _ | exact hRo _) (by first | assumption | exact b01_r | exact bz_r | omega | (constructor <;> omega) | exact hM _ | exact hPo _ | exact hTa _ | exact hRo _) (fun c_25 => ?_) (fun c_25 => ?_)
    · exact K
    · exfalso; omega
  | succ n ih =>
    intro o ho
    have hB0 := hB
    have rt := agT_r hnm (t := o) (o := t) (by omega) ht
    have rc := cnt_r (nmB m t) o
    dsimp only [mFs] at hB
    refine r_iload (pc := 17) dX11_byName_17 rfl ?_
    refine r_aload_n (pc := 19) dX11_byName_19 rfl (by first | rfl | exact isRefV_rf _) ?_
    refine rm_getf (pc := 20) dX11_byName_20 fX11_11 (by assumption) rfl ?_
    refine rj_iconst (pc := 23) dX11_byName_23 ?_
    refine rj_iald (pc := 24) (j := 1) dX11_byName_24 (by first | exact isM.g0 (by assumption) | exact isM.g3 (by assumption) | exact isM.g4 (by assumption) | exact isM.g8 (by assumption) | exact isM.g7 (by assumption) | exact isM.g6 (by assumption) | exact isM.g5 (by assumption) | exact isM.g1 (by assumption) | exact isM.g2 (by assumption)) (by first | assumption | exact b01_r | exact bz_r | omega | (constructor <;> omega) | exact hM _ | exact hPo _ | exact hTa _ | exact hRo _) (by first | assumption | exact b01_r | exact bz_r | omega | (constructor <;> omega) | exact hM _ | exact hPo _ | exact hTa _ | exact hRo _) (by first | assumption | exact b01_r | exact bz_r | omega | (constructor <;> omega) | exact hM _ | exact hPo _ | exact hTa _ | exact hRo _) (by omega) ?_
    refine rj_icmp_ge (pc := 25) (tgt := 61) dX11_byName_25 (by decide) (by first | assumption | exact b01_r | exact bz_r | omega | (constructor <;> omega) | exact hM _ | exact hPo _ | exact hTa _ | exact hRo _) (by first | assumption | exact b01_r | exact bz_r | omega | (constructor <;> omega) | exact hM _ | exact hPo _ | exact hTa _ | exact hRo _) (fun c_25 => ?_) (fun c_25 => ?_)
    · exfalso; omega
    · refine r_iload_n (pc := 28) dX11_byName_28 rfl ?_
      refine r_aload_n (pc := 29) dX11_byName_29 rfl (by first | rfl | exact isRefV_rf _) ?_
      refine r_iload (pc := 30) dX11_byName_30 rfl ?_
      refine r_callV1 (pc := 32) dX11_byName_32 qX11_isHeld kX11_119 vX11_isHeld (by exact isM.gx (by assumption)) rfl rfl (Nat.le_of_ble_eq_true rfl) (m_isHeld (d + 1) hB0 hM (by omega) (by omega)) (fun v_32 h_32 q_32 => ?_)
      obtain ⟨rfl, rfl⟩ := q_32
      refine rj_if_eq (pc := 35) (tgt := 52) dX11_byName_35 (by decide) (by first | assumption | exact b01_r | exact bz_r | omega | (constructor <;> omega) | exact hM _ | exact hPo _ | exact hTa _ | exact hRo _) (fun c_35 => ?_) (fun c_35 => ?_)
      · try simp only [b01_0, bz_0, Classical.not_not] at c_35
        refine rj_iconst (pc := 52) dX11_byName_52 ?_
        refine rj_iadd (pc := 53) dX11_byName_53 ?_
        refine r_istore_n (pc := 54) dX11_byName_54 (Nat.le_of_ble_eq_true rfl) ?_
        dsimp only [lsSt, List.set, mLs, mEnt]
        refine rj_iinc (pc := 55) dX11_byName_55 (Nat.le_of_ble_eq_true rfl) rfl ?_
        dsimp only [lsSt, List.set, mLs, mEnt]
        refine r_goto (pc := 58) (tgt := 17) dX11_byName_58 (by decide) ?_
        have z := ih (o + 1) (by omega)
        rw [show ((o + 1 : Nat) : Int) = (o : Int) + 1 by omega] at z
        rw [← (cnt_f (p := nmB m t) (n := o) (by simp only [nmB, heldB]; rw [show decide (m (258 + 14 * o) = 0) = false from decide_eq_false (by rw [n_held] at c_35; exact c_35)]; rfl))] at z
        exact z
      · try simp only [b01_0, bz_0, Classical.not_not] at c_35
        refine r_aload_n (pc := 38) dX11_byName_38 rfl (by first | rfl | exact isRefV_rf _) ?_
        refine r_iload (pc := 39) dX11_byName_39 rfl ?_
        refine r_iload_n (pc := 41) dX11_byName_41 rfl ?_
        refine r_callV2 (pc := 42) dX11_byName_42 qX11_against_ kX11_268 vX11_against_ (by exact isM.gx (by assumption)) rfl rfl (Nat.le_of_ble_eq_true rfl) (m_against2 d hB0 hok hN hnm (t := o) (o := t) (by omega) ht) (fun v_42 h_42 q_42 => ?_)
        obtain ⟨rfl, rfl⟩ := q_42
        refine rj_if_ge (pc := 45) (tgt := 52) dX11_byName_45 (by decide) (by first | assumption | exact b01_r | exact bz_r | omega | (constructor <;> omega) | exact hM _ | exact hPo _ | exact hTa _ | exact hRo _) (fun c_45 => ?_) (fun c_45 => ?_)
        · refine rj_iconst (pc := 52) dX11_byName_52 ?_
          refine rj_iadd (pc := 53) dX11_byName_53 ?_
          refine r_istore_n (pc := 54) dX11_byName_54 (Nat.le_of_ble_eq_true rfl) ?_
          dsimp only [lsSt, List.set, mLs, mEnt]
          refine rj_iinc (pc := 55) dX11_byName_55 (Nat.le_of_ble_eq_true rfl) rfl ?_
          dsimp only [lsSt, List.set, mLs, mEnt]
          refine r_goto (pc := 58) (tgt := 17) dX11_byName_58 (by decide) ?_
          have z := ih (o + 1) (by omega)
          rw [show ((o + 1 : Nat) : Int) = (o : Int) + 1 by omega] at z
          rw [← (cnt_f (p := nmB m t) (n := o) (by simp only [nmB]; rw [show decide (agT m o t < 0) = false from decide_eq_false (by omega)]; exact Bool.and_false _))] at z
          exact z
        · refine rj_iconst (pc := 48) dX11_byName_48 ?_
          refine r_goto (pc := 49) (tgt := 53) dX11_byName_49 (by decide) ?_
          refine rj_iadd (pc := 53) dX11_byName_53 ?_
          refine r_istore_n (pc := 54) dX11_byName_54 (Nat.le_of_ble_eq_true rfl) ?_
          dsimp only [lsSt, List.set, mLs, mEnt]
          refine rj_iinc (pc := 55) dX11_byName_55 (Nat.le_of_ble_eq_true rfl) rfl ?_
          dsimp only [lsSt, List.set, mLs, mEnt]
          refine r_goto (pc := 58) (tgt := 17) dX11_byName_58 (by decide) ?_
          have z := ih (o + 1) (by omega)
          rw [show ((o + 1 : Nat) : Int) = (o : Int) + 1 by omega] at z
          rw [← (cnt_t (p := nmB m t) (n := o) (by simp only [nmB, heldB]; rw [show decide (m (258 + 14 * o) = 0) = true from decide_eq_true (by rw [n_held] at c_35; exact c_35), show decide (agT m o t < 0) = true from decide_eq_true (by omega)]; rfl))] at z
          exact z
set_option maxHeartbeats 4000000 in
set_option maxRecDepth 100000 in
theorem L_byName {G : mG} {l : Launch} (d : Nat) {h : mH} {x s : Nat} {f4 f6 f8 f9 f10 f11 f12 f13 f14 f16 f18 : Int} {m kp was pool tape pln pap rwd rw : Nat → Int}(hB : isM h x (mFs x f4 f6 f8 f9 f10 f11 f12 f13 f14 f16 f18 s) m kp was pool tape pln pap rwd rw) (hok : mOk m) {N : Nat} (hN : m 1 = (N : Int)) (hnm : ∀ t : Nat, t < N → (0 ≤ m (261 + 14 * t) ∧ m (261 + 14 * t) ≤ 7) ∧ ∀ k : Nat, k < 7 → -200 ≤ m (265 + 14 * t + k) ∧ m (265 + 14 * t + k) ≤ 200) {i : Int} (hi : InR i) : ∀ (n t : Nat) (v3 v4 : Option Value), t + n = N → RUN G l (d + 3) mX11_byName 2 [some (.ref x), some (.int (J i)), some (.int (J (t : Int))), v3, v4] [] h (fun v h' => v = some (.int (J (bnL m N i n t))) ∧ h' = h) := by
  obtain ⟨hM, k0, k1, k2, k3, k4, k5, k7⟩ := id hok
  intro n
  induction n with
  | zero =>
    intro t v3 v4 ht
    have hB0 := hB
    dsimp only [mFs] at hB
    refine r_iload_n (pc := 2) dX11_byName_2 rfl ?_
    refine r_aload_n (pc := 3) dX11_byName_3 rfl (by first | rfl | exact isRefV_rf _) ?_
    refine rm_getf (pc := 4) dX11_byName_4 fX11_11 (by assumption) rfl ?_
    refine rj_iconst (pc := 7) dX11_byName_7 ?_
    refine rj_iald (pc := 8) (j := 1) dX11_byName_8 (by first | exact isM.g0 (by assumption) | exact isM.g3 (by assumption) | exact isM.g4 (by assumption) | exact isM.g8 (by assumption) | exact isM.g7 (by assumption) | exact isM.g6 (by assumption) | exact isM.g5 (by assumption) | exact isM.g1 (by assumption) | exact isM.g2 (by assumption)) (by first | assumption | exact b01_r | exact bz_r | omega | (constructor <;> omega) | exact hM _ | exact hPo _ | exact hTa _ | exact hRo _) (by first | assumption | exact b01_r | exact bz_r | omega | (constructor <;> omega) | exact hM _ | exact hPo _ | exact hTa _ | exact hRo _) (by first | assumption | exact b01_r | exact bz_r | omega | (constructor <;> omega) | exact hM _ | exact hPo _ | exact hTa _ | exact hRo _) (by omega) ?_
    refine rj_icmp_ge (pc := 9) (tgt := 82) dX11_byName_9 (by decide) (by first | assumption | exact b01_r | exact bz_r | omega | (constructor <;> omega) | exact hM _ | exact hPo _ | exact hTa _ | exact hRo _) (by first | assumption | exact b01_r | exact bz_r | omega | (constructor <;> omega) | exact hM _ | exact hPo _ | exact hTa _ | exact hRo _) (fun c_9 => ?_) (fun c_9 => ?_)
    · refine rj_iconst (pc := 82) dX11_byName_82 ?_
      refine r_ireturn (pc := 83) .int dX11_byName_83 rfl (by first | rfl | assumption) ?_
      exact ⟨rfl, rfl⟩
    · exfalso; omega
  | succ n ih =>
    intro t v3 v4 ht
    have hB0 := hB
    have rc := cnt_r (nmB m t) N
    dsimp only [mFs] at hB
    refine r_iload_n (pc := 2) dX11_byName_2 rfl ?_
    refine r_aload_n (pc := 3) dX11_byName_3 rfl (by first | rfl | exact isRefV_rf _) ?_
    refine rm_getf (pc := 4) dX11_byName_4 fX11_11 (by assumption) rfl ?_
    refine rj_iconst (pc := 7) dX11_byName_7 ?_
    refine rj_iald (pc := 8) (j := 1) dX11_byName_8 (by first | exact isM.g0 (by assumption) | exact isM.g3 (by assumption) | exact isM.g4 (by assumption) | exact isM.g8 (by assumption) | exact isM.g7 (by assumption) | exact isM.g6 (by assumption) | exact isM.g5 (by assumption) | exact isM.g1 (by assumption) | exact isM.g2 (by assumption)) (by first | assumption | exact b01_r | exact bz_r | omega | (constructor <;> omega) | exact hM _ | exact hPo _ | exact hTa _ | exact hRo _) (by first | assumption | exact b01_r | exact bz_r | omega | (constructor <;> omega) | exact hM _ | exact hPo _ | exact hTa _ | exact hRo _) (by first | assumption | exact b01_r | exact bz_r | omega | (constructor <;> omega) | exact hM _ | exact hPo _ | exact hTa _ | exact hRo _) (by omega) ?_
    refine rj_icmp_ge (pc := 9) (tgt := 82) dX11_byName_9 (by decide) (by first | assumption | exact b01_r | exact bz_r | omega | (constructor <;> omega) | exact hM _ | exact hPo _ | exact hTa _ | exact hRo _) (by first | assumption | exact b01_r | exact bz_r | omega | (constructor <;> omega) | exact hM _ | exact hPo _ | exact hTa _ | exact hRo _) (fun c_9 => ?_) (fun c_9 => ?_)
    · exfalso; omega
    · refine rj_iconst (pc := 12) dX11_byName_12 ?_
      refine r_istore_n (pc := 13) dX11_byName_13 (Nat.le_of_ble_eq_true rfl) ?_
      dsimp only [lsSt, List.set, mLs, mEnt]
      refine rj_iconst (pc := 14) dX11_byName_14 ?_
      refine r_istore (pc := 15) dX11_byName_15 (Nat.le_of_ble_eq_true rfl) ?_
      dsimp only [lsSt, List.set, mLs, mEnt]
      refine L_byName2 d hB0 hok hN hnm (by omega) ?_ N 0 (by omega)
      refine r_aload_n (pc := 61) dX11_byName_61 rfl (by first | rfl | exact isRefV_rf _) ?_
      refine r_iload_n (pc := 62) dX11_byName_62 rfl ?_
      refine r_callV1 (pc := 63) dX11_byName_63 qX11_isHeld kX11_119 vX11_isHeld (by exact isM.gx (by assumption)) rfl rfl (Nat.le_of_ble_eq_true rfl) (m_isHeld (d + 1) hB0 hM (by omega) (by omega)) (fun v_63 h_63 q_63 => ?_)
      obtain ⟨rfl, rfl⟩ := q_63
      refine rj_if_eq (pc := 66) (tgt := 76) dX11_byName_66 (by decide) (by first | assumption | exact b01_r | exact bz_r | omega | (constructor <;> omega) | exact hM _ | exact hPo _ | exact hTa _ | exact hRo _) (fun c_66 => ?_) (fun c_66 => ?_)
      · try simp only [b01_0, bz_0, Classical.not_not] at c_66
        refine rj_iinc (pc := 76) dX11_byName_76 (Nat.le_of_ble_eq_true rfl) rfl ?_
        dsimp only [lsSt, List.set, mLs, mEnt]
        refine r_goto (pc := 79) (tgt := 2) dX11_byName_79 (by decide) ?_
        rw [show ((t : Int) + 1) = ((t + 1 : Nat) : Int) by omega]
        rw [bnL, if_neg (fun g => c_66 (by have := g.1; simp only [heldB, decide_eq_true_eq] at this; rw [n_held]; exact this))]
        exact ih (t + 1) _ _ (by omega)
      · try simp only [b01_0, bz_0, Classical.not_not] at c_66
        refine r_iload_n (pc := 69) dX11_byName_69 rfl ?_
        refine r_iload_n (pc := 70) dX11_byName_70 rfl ?_
        refine rj_icmp_ne (pc := 71) (tgt := 76) dX11_byName_71 (by decide) (by first | assumption | exact b01_r | exact bz_r | omega | (constructor <;> omega) | exact hM _ | exact hPo _ | exact hTa _ | exact hRo _) (by first | assumption | exact b01_r | exact bz_r | omega | (constructor <;> omega) | exact hM _ | exact hPo _ | exact hTa _ | exact hRo _) (fun c_71 => ?_) (fun c_71 => ?_)
        · refine rj_iinc (pc := 76) dX11_byName_76 (Nat.le_of_ble_eq_true rfl) rfl ?_
          dsimp only [lsSt, List.set, mLs, mEnt]
          refine r_goto (pc := 79) (tgt := 2) dX11_byName_79 (by decide) ?_
          rw [show ((t : Int) + 1) = ((t + 1 : Nat) : Int) by omega]
          rw [bnL, if_neg (fun g => c_71 g.2)]
          exact ih (t + 1) _ _ (by omega)
        · refine r_iload_n (pc := 74) dX11_byName_74 rfl ?_
          refine r_ireturn (pc := 75) .int dX11_byName_75 rfl (by first | rfl | assumption) ?_
          exact ⟨by rw [bnL, if_pos ⟨by simp only [heldB, decide_eq_true_eq]; rw [n_held] at c_66; exact c_66, c_71⟩], rfl⟩
set_option maxHeartbeats 4000000 in
set_option maxRecDepth 100000 in
theorem m_byName {G : mG} {l : Launch} (d : Nat) {h : mH} {x s : Nat} {f4 f6 f8 f9 f10 f11 f12 f13 f14 f16 f18 : Int} {m kp was pool tape pln pap rwd rw : Nat → Int}(hB : isM h x (mFs x f4 f6 f8 f9 f10 f11 f12 f13 f14 f16 f18 s) m kp was pool tape pln pap rwd rw) (hok : mOk m) {N : Nat} (hN : m 1 = (N : Int)) (hnm : ∀ t : Nat, t < N → (0 ≤ m (261 + 14 * t) ∧ m (261 + 14 * t) ≤ 7) ∧ ∀ k : Nat, k < 7 → -200 ≤ m (265 + 14 * t + k) ∧ m (265 + 14 * t + k) ≤ 200) {i : Int} (hi : InR i) : RUNM G l (d + 3) mX11_byName [.ref x, .int (J i)] h (fun v h' => v = some (.int (J (bnL m N i N 0))) ∧ h' = h) := by
  have hB0 := hB
  dsimp only [mFs] at hB
  refine RUNM.of (by decide +kernel) (Nat.le_of_ble_eq_true rfl) ?_
  refine rj_iconst (pc := 0) dX11_byName_0 ?_
  refine r_istore_n (pc := 1) dX11_byName_1 (Nat.le_of_ble_eq_true rfl) ?_
  dsimp only [lsSt, List.set, mLs, mEnt]
  exact L_byName d hB0 hok hN hnm hi N 0 _ _ (by omega)
