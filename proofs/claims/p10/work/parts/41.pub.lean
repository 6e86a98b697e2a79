/-! ===== contracts of the reference: faultAt, fault, entry, move ===== -/
def faJ (m : Nat → Int) (t : Int) : Nat → Nat → Int → Nat
  | 0, j, _ => j
  | n + 1, j, i => if m (2328 + 3 * j) = t ∧ i ≤ 0 then j else faJ m t n (j + 1) (i - if m (2328 + 3 * j) = t then 1 else 0)
def faultAtV (m : Nat → Int) (N : Nat) (t k w : Int) : Int := if 0 ≤ t then (if m (1618 + 72 * t).toNat = 0 then m (2329 + 3 * (faJ m t N 0 k : Int) + w).toNat else if k = 0 then (if w = 0 then m (1618 + 72 * t).toNat else -1) else m (2329 + 3 * (faJ m t N 0 (k - 1) : Int) + w).toNat) else m (2688 + 2 * k + w).toNat
set_option maxHeartbeats 4000000 in
set_option maxRecDepth 100000 in
theorem L_faultAt {G : mG} {l : Launch} (d : Nat) {h : mH} {x s : Nat} {f4 f6 f8 f9 f10 f11 f12 f13 f14 f16 f18 : Int} {m kp was pool tape pln pap rwd rw : Nat → Int}(hB : isM h x (mFs x f4 f6 f8 f9 f10 f11 f12 f13 f14 f16 f18 s) m kp was pool tape pln pap rwd rw) (hM : ∀ q, InR (m q)) {N : Nat} (hN : m 4 = (N : Int)) (hcap : N ≤ 120) {t k w : Int} (ht : InR t) (hw : 0 ≤ w ∧ w ≤ 1) : ∀ (n j : Nat) (i : Int), j + n = N → 0 ≤ i → i ≤ 1000 → i < cnt (faultB m t) N - cnt (faultB m t) j → RUN G l (d + 1) mX11_faultAt 69 [some (.ref x), some (.int (J t)), some (.int (J k)), some (.int (J w)), some (.int (J i)), some (.int (J (j : Int)))] [] h (fun v h' => v = some (.int (J (m (2329 + 3 * (faJ m t n j i : Int) + w).toNat))) ∧ h' = h) := by
  dsimp only [mFs] at hB
  intro n
  induction n with
  | zero =>
    intro j i hj h0 h1 h2
    exfalso
    rw [show j = N by omega] at h2
    omega
  | succ n ih =>
    intro j i hj h0 h1 h2
    refine r_aload_n (pc := 69) dX11_faultAt_69 rfl (by first | rfl | exact isRefV_rf _) ?_
    refine rm_getf (pc := 70) dX11_faultAt_70 fX11_11 (by assumption) rfl ?_
    refine rj_sipush (pc := 73) dX11_faultAt_73 (by decide +kernel) ?_
    refine rj_iconst (pc := 76) dX11_faultAt_76 ?_
    refine r_iload (pc := 77) dX11_faultAt_77 rfl ?_
    refine rj_imul (pc := 79) dX11_faultAt_79 ?_
    refine rj_iadd (pc := 80) dX11_faultAt_80 ?_
    refine rj_iald (pc := 81) (j := 2328 + 3 * j) dX11_faultAt_81 (by first | exact isM.g0 (by assumption) | exact isM.g3 (by assumption) | exact isM.g4 (by assumption) | exact isM.g8 (by assumption) | exact isM.g7 (by assumption) | exact isM.g6 (by assumption) | exact isM.g5 (by assumption) | exact isM.g1 (by assumption) | exact isM.g2 (by assumption)) (by first | assumption | exact b01_r | exact bz_r | omega | (constructor <;> omega) | exact hM _ | exact hPo _ | exact hTa _ | exact hRo _) (by first | assumption | exact b01_r | exact bz_r | omega | (constructor <;> omega) | exact hM _ | exact hPo _ | exact hTa _ | exact hRo _) (by first | assumption | exact b01_r | exact bz_r | omega | (constructor <;> omega) | exact hM _ | exact hPo _ | exact hTa _ | exact hRo _) (by omega) ?_
    refine r_iload_n (pc := 82) dX11_faultAt_82 rfl ?_
    refine rj_icmp_ne (pc := 83) (tgt := 91) dX11_faultAt_83 (by decide) (by first | assumption | exact b01_r | exact bz_r | omega | (constructor <;> omega) | exact hM _ | exact hPo _ | exact hTa _ | exact hRo _) (by first | assumption | exact b01_r | exact bz_r | omega | (constructor <;> omega) | exact hM _ | exact hPo _ | exact hTa _ | exact hRo _) (fun c_83 => ?_) (fun c_83 => ?_)
    · refine r_iload (pc := 91) dX11_faultAt_91 rfl ?_
      refine r_aload_n (pc := 93) dX11_faultAt_93 rfl (by first | rfl | exact isRefV_rf _) ?_
      refine rm_getf (pc := 94) dX11_faultAt_94 fX11_11 (by assumption) rfl ?_
      refine rj_sipush (pc := 97) dX11_faultAt_97 (by decide +kernel) ?_
      refine rj_iconst (pc := 100) dX11_faultAt_100 ?_
      refine r_iload (pc := 101) dX11_faultAt_101 rfl ?_
      refine rj_imul (pc := 103) dX11_faultAt_103 ?_
      refine rj_iadd (pc := 104) dX11_faultAt_104 ?_
      refine rj_iald (pc := 105) (j := 2328 + 3 * j) dX11_faultAt_105 (by first | exact isM.g0 (by assumption) | exact isM.g3 (by assumption) | exact isM.g4 (by assumption) | exact isM.g8 (by assumption) | exact isM.g7 (by assumption) | exact isM.g6 (by assumption) | exact isM.g5 (by assumption) | exact isM.g1 (by assumption) | exact isM.g2 (by assumption)) (by first | assumption | exact b01_r | exact bz_r | omega | (constructor <;> omega) | exact hM _ | exact hPo _ | exact hTa _ | exact hRo _) (by first | assumption | exact b01_r | exact bz_r | omega | (constructor <;> omega) | exact hM _ | exact hPo _ | exact hTa _ | exact hRo _) (by first | assumption | exact b01_r | exact bz_r | omega | (constructor <;> omega) | exact hM _ | exact hPo _ | exact hTa _ | exact hRo _) (by omega) ?_
      refine r_iload_n (pc := 106) dX11_faultAt_106 rfl ?_
      refine rj_icmp_ne (pc := 107) (tgt := 114) dX11_faultAt_107 (by decide) (by first | assumption | exact b01_r | exact bz_r | omega | (constructor <;> omega) | exact hM _ | exact hPo _ | exact hTa _ | exact hRo _) (by first | assumption | exact b01_r | exact bz_r | omega | (constructor <;> omega) | exact hM _ | exact hPo _ | exact hTa _ | exact hRo _) (fun c_107 => ?_) (fun c_107 => ?_)
      · refine rj_iconst (pc := 114) dX11_faultAt_114 ?_
        refine rj_isub (pc := 115) dX11_faultAt_115 ?_
        refine r_istore (pc := 116) dX11_faultAt_116 (Nat.le_of_ble_eq_true rfl) ?_
        dsimp only [lsSt, List.set, mLs, mEnt]
        refine rj_iinc (pc := 118) dX11_faultAt_118 (Nat.le_of_ble_eq_true rfl) rfl ?_
        dsimp only [lsSt, List.set, mLs, mEnt]
        refine r_goto (pc := 121) (tgt := 69) dX11_faultAt_121 (by decide) ?_
        have e := cnt_f (p := faultB m t) (n := j) (by simp only [faultB, decide_eq_false_iff_not]; exact c_83)
        have z := ih (j + 1) (i - 0) (by omega) (by omega) (by omega) (by omega)
        rw [faJ, if_neg (fun g => c_83 g.1), if_neg c_83]
        exact z
      · refine rj_iconst (pc := 110) dX11_faultAt_110 ?_
        refine r_goto (pc := 111) (tgt := 115) dX11_faultAt_111 (by decide) ?_
        refine rj_isub (pc := 115) dX11_faultAt_115 ?_
        refine r_istore (pc := 116) dX11_faultAt_116 (Nat.le_of_ble_eq_true rfl) ?_
        dsimp only [lsSt, List.set, mLs, mEnt]
        refine rj_iinc (pc := 118) dX11_faultAt_118 (Nat.le_of_ble_eq_true rfl) rfl ?_
        dsimp only [lsSt, List.set, mLs, mEnt]
        refine r_goto (pc := 121) (tgt := 69) dX11_faultAt_121 (by decide) ?_
        exfalso; omega
    · refine r_iload (pc := 86) dX11_faultAt_86 rfl ?_
      refine rj_if_le (pc := 88) (tgt := 124) dX11_faultAt_88 (by decide) (by first | assumption | exact b01_r | exact bz_r | omega | (constructor <;> omega) | exact hM _ | exact hPo _ | exact hTa _ | exact hRo _) (fun c_88 => ?_) (fun c_88 => ?_)
      · refine r_aload_n (pc := 124) dX11_faultAt_124 rfl (by first | rfl | exact isRefV_rf _) ?_
        refine rm_getf (pc := 125) dX11_faultAt_125 fX11_11 (by assumption) rfl ?_
        refine rj_sipush (pc := 128) dX11_faultAt_128 (by decide +kernel) ?_
        refine rj_iconst (pc := 131) dX11_faultAt_131 ?_
        refine r_iload (pc := 132) dX11_faultAt_132 rfl ?_
        refine rj_imul (pc := 134) dX11_faultAt_134 ?_
        refine rj_iadd (pc := 135) dX11_faultAt_135 ?_
        refine rj_iconst (pc := 136) dX11_faultAt_136 ?_
        refine rj_iadd (pc := 137) dX11_faultAt_137 ?_
        refine r_iload_n (pc := 138) dX11_faultAt_138 rfl ?_
        refine rj_iadd (pc := 139) dX11_faultAt_139 ?_
        refine rj_iald (pc := 140) (j := (2329 + 3 * (j : Int) + w).toNat) dX11_faultAt_140 (by first | exact isM.g0 (by assumption) | exact isM.g3 (by assumption) | exact isM.g4 (by assumption) | exact isM.g8 (by assumption) | exact isM.g7 (by assumption) | exact isM.g6 (by assumption) | exact isM.g5 (by assumption) | exact isM.g1 (by assumption) | exact isM.g2 (by assumption)) (by first | assumption | exact b01_r | exact bz_r | omega | (constructor <;> omega) | exact hM _ | exact hPo _ | exact hTa _ | exact hRo _) (by first | assumption | exact b01_r | exact bz_r | omega | (constructor <;> omega) | exact hM _ | exact hPo _ | exact hTa _ | exact hRo _) (by first | assumption | exact b01_r | exact bz_r | omega | (constructor <;> omega) | exact hM _ | exact hPo _ | exact hTa _ | exact hRo _) (by omega) ?_
        refine r_ireturn (pc := 141) .int dX11_faultAt_141 rfl (by first | rfl | assumption) ?_
        have e1 : faJ m t (n + 1) j i = j := by rw [faJ, if_pos ⟨c_83, c_88⟩]
        rw [e1]
        exact ⟨rfl, rfl⟩
      · refine r_iload (pc := 91) dX11_faultAt_91 rfl ?_
        refine r_aload_n (pc := 93) dX11_faultAt_93 rfl (by first | rfl | exact isRefV_rf _) ?_
        refine rm_getf (pc := 94) dX11_faultAt_94 fX11_11 (by assumption) rfl ?_
        refine rj_sipush (pc := 97) dX11_faultAt_97 (by decide +kernel) ?_
        refine rj_iconst (pc := 100) dX11_faultAt_100 ?_
        refine r_iload (pc := 101) dX11_faultAt_101 rfl ?_
        refine rj_imul (pc := 103) dX11_faultAt_103 ?_
        refine rj_iadd (pc := 104) dX11_faultAt_104 ?_
        refine rj_iald (pc := 105) (j := 2328 + 3 * j) dX11_faultAt_105 (by first | exact isM.g0 (by assumption) | exact isM.g3 (by assumption) | exact isM.g4 (by assumption) | exact isM.g8 (by assumption) | exact isM.g7 (by assumption) | exact isM.g6 (by assumption) | exact isM.g5 (by assumption) | exact isM.g1 (by assumption) | exact isM.g2 (by assumption)) (by first | assumption | exact b01_r | exact bz_r | omega | (constructor <;> omega) | exact hM _ | exact hPo _ | exact hTa _ | exact hRo _) (by first | assumption | exact b01_r | exact bz_r | omega | (constructor <;> omega) | exact hM _ | exact hPo _ | exact hTa _ | exact hRo _) (by first | assumption | exact b01_r | exact bz_r | omega | (constructor <;> omega) | exact hM _ | exact hPo _ | exact hTa _ | exact hRo _) (by omega) ?_
        refine r_iload_n (pc := 106) dX11_faultAt_106 rfl ?_
        refine rj_icmp_ne (pc := 107) (tgt := 114) dX11_faultAt_107 (by decide) (by first | assumption | exact b01_r | exact bz_r | omega | (constructor <;> omega) | exact hM _ | exact hPo _ | exact hTa _ | exact hRo _) (by first | assumption | exact b01_r | exact bz_r | omega | (constructor <;> omega) | exact hM _ | exact hPo _ | exact hTa _ | exact hRo _) (fun c_107 => ?_) (fun c_107 => ?_)
        · refine rj_iconst (pc := 114) dX11_faultAt_114 ?_
          refine rj_isub (pc := 115) dX11_faultAt_115 ?_
          refine r_istore (pc := 116) dX11_faultAt_116 (Nat.le_of_ble_eq_true rfl) ?_
          dsimp only [lsSt, List.set, mLs, mEnt]
          refine rj_iinc (pc := 118) dX11_faultAt_118 (Nat.le_of_ble_eq_true rfl) rfl ?_
          dsimp only [lsSt, List.set, mLs, mEnt]
          refine r_goto (pc := 121) (tgt := 69) dX11_faultAt_121 (by decide) ?_
          exfalso; omega
        · refine rj_iconst (pc := 110) dX11_faultAt_110 ?_
          refine r_goto (pc := 111) (tgt := 115) dX11_faultAt_111 (by decide) ?_
          refine rj_isub (pc := 115) dX11_faultAt_115 ?_
          refine r_istore (pc := 116) dX11_faultAt_116 (Nat.le_of_ble_eq_true rfl) ?_
          dsimp only [lsSt, List.set, mLs, mEnt]
          refine rj_iinc (pc := 118) dX11_faultAt_118 (Nat.le_of_ble_eq_true rfl) rfl ?_
          dsimp only [lsSt, List.set, mLs, mEnt]
          refine r_goto (pc := 121) (tgt := 69) dX11_faultAt_121 (by decide) ?_
          have e := cnt_t (p := faultB m t) (n := j) (by simp only [faultB, decide_eq_true_eq]; exact c_83)
          have z := ih (j + 1) (i - 1) (by omega) (by omega) (by omega) (by omega)
          rw [faJ, if_neg (fun g => c_88 g.2), if_pos c_83]
          exact z
set_option maxHeartbeats 4000000 in
set_option maxRecDepth 100000 in
theorem m_faultAt {G : mG} {l : Launch} (d : Nat) {h : mH} {x s : Nat} {f4 f6 f8 f9 f10 f11 f12 f13 f14 f16 f18 : Int} {m kp was pool tape pln pap rwd rw : Nat → Int}(hB : isM h x (mFs x f4 f6 f8 f9 f10 f11 f12 f13 f14 f16 f18 s) m kp was pool tape pln pap rwd rw) (hM : ∀ q, InR (m q)) {N : Nat} (hN : m 4 = (N : Int)) (hcap : N ≤ 120) {t k w : Int} (ht : InR t) (hw : 0 ≤ w ∧ w ≤ 1) (ht2 : t ≤ 9) (h5 : m 5 ≤ 120) (hk0 : 0 ≤ k) (hk : k < manyV m N t) : RUNM G l (d + 1) mX11_faultAt [.ref x, .int (J t), .int (J k), .int (J w)] h (fun v h' => v = some (.int (J (faultAtV m N t k w))) ∧ h' = h) := by
  have hB0 := hB
  dsimp only [mFs] at hB
  refine RUNM.of (by decide +kernel) (Nat.le_of_ble_eq_true rfl) ?_
  have r4 := cnt_r (faultB m t) N
  have kk : k ≤ 121 ∧ (t < 0 → k < m 5) := by
    unfold manyV at hk
    split at hk
    · split at hk <;> (constructor <;> omega)
    · constructor <;> omega
  refine r_iload_n (pc := 0) dX11_faultAt_0 rfl ?_
  refine rj_if_ge (pc := 1) (tgt := 19) dX11_faultAt_1 (by decide) (by first | assumption | exact b01_r | exact bz_r | omega | (constructor <;> omega) | exact hM _ | exact hPo _ | exact hTa _ | exact hRo _) (fun c_1 => ?_) (fun c_1 => ?_)
  · refine r_iload_n (pc := 19) dX11_faultAt_19 rfl ?_
    refine r_istore (pc := 20) dX11_faultAt_20 (Nat.le_of_ble_eq_true rfl) ?_
    dsimp only [lsSt, List.set, mLs, mEnt]
    refine r_aload_n (pc := 22) dX11_faultAt_22 rfl (by first | rfl | exact isRefV_rf _) ?_
    refine rm_getf (pc := 23) dX11_faultAt_23 fX11_11 (by assumption) rfl ?_
    refine r_iload_n (pc := 26) dX11_faultAt_26 rfl ?_
    refine rj_bipush (pc := 27) dX11_faultAt_27 (by decide +kernel) ?_
    refine rj_iconst (pc := 29) dX11_faultAt_29 ?_
    refine r_callS3 (pc := 30) dX11_faultAt_30 qX11_ofTask kX11_58 sX11_ofTask (Nat.le_of_ble_eq_true rfl) (m_ofTask d) (fun v_30 h_30 q_30 => ?_)
    obtain ⟨rfl, rfl⟩ := q_30
    refine rj_iald (pc := 33) (j := (1618 + 72 * t).toNat) dX11_faultAt_33 (by first | exact isM.g0 (by assumption) | exact isM.g3 (by assumption) | exact isM.g4 (by assumption) | exact isM.g8 (by assumption) | exact isM.g7 (by assumption) | exact isM.g6 (by assumption) | exact isM.g5 (by assumption) | exact isM.g1 (by assumption) | exact isM.g2 (by assumption)) (by first | assumption | exact b01_r | exact bz_r | omega | (constructor <;> omega) | exact hM _ | exact hPo _ | exact hTa _ | exact hRo _) (by first | assumption | exact b01_r | exact bz_r | omega | (constructor <;> omega) | exact hM _ | exact hPo _ | exact hTa _ | exact hRo _) (by first | assumption | exact b01_r | exact bz_r | omega | (constructor <;> omega) | exact hM _ | exact hPo _ | exact hTa _ | exact hRo _) (by omega) ?_
    refine rj_if_eq (pc := 34) (tgt := 66) dX11_faultAt_34 (by decide) (by first | assumption | exact b01_r | exact bz_r | omega | (constructor <;> omega) | exact hM _ | exact hPo _ | exact hTa _ | exact hRo _) (fun c_34 => ?_) (fun c_34 => ?_)
    · try simp only [b01_0, bz_0, Classical.not_not] at c_34
      refine rj_iconst (pc := 66) dX11_faultAt_66 ?_
      refine r_istore (pc := 67) dX11_faultAt_67 (Nat.le_of_ble_eq_true rfl) ?_
      dsimp only [lsSt, List.set, mLs, mEnt]
      have em : manyV m N t = cnt (faultB m t) N + 0 := by unfold manyV; rw [if_pos (by omega), if_pos c_34]
      have z := L_faultAt (G := G) (l := l) d (k := k) hB0 hM hN hcap ht hw N 0 k (by omega) (by omega) (by omega) (by show k < cnt (faultB m t) N - 0; omega)
      rw [show faultAtV m N t k w = m (2329 + 3 * (faJ m t N 0 k : Int) + w).toNat by unfold faultAtV; rw [if_pos (by omega), if_pos c_34]]
      exact z
    · try simp only [b01_0, bz_0, Classical.not_not] at c_34
      refine r_iload (pc := 37) dX11_faultAt_37 rfl ?_
      refine rj_if_ne (pc := 39) (tgt := 63) dX11_faultAt_39 (by decide) (by first | assumption | exact b01_r | exact bz_r | omega | (constructor <;> omega) | exact hM _ | exact hPo _ | exact hTa _ | exact hRo _) (fun c_39 => ?_) (fun c_39 => ?_)
      · try simp only [b01_0, bz_0, Classical.not_not] at c_39
        refine rj_iinc (pc := 63) dX11_faultAt_63 (Nat.le_of_ble_eq_true rfl) rfl ?_
        dsimp only [lsSt, List.set, mLs, mEnt]
        refine rj_iconst (pc := 66) dX11_faultAt_66 ?_
        refine r_istore (pc := 67) dX11_faultAt_67 (Nat.le_of_ble_eq_true rfl) ?_
        dsimp only [lsSt, List.set, mLs, mEnt]
        have em : manyV m N t = cnt (faultB m t) N + 1 := by unfold manyV; rw [if_pos (by omega), if_neg c_34]
        have z := L_faultAt (G := G) (l := l) d (k := k) hB0 hM hN hcap ht hw N 0 (k - 1) (by omega) (by omega) (by omega) (by show k - 1 < cnt (faultB m t) N - 0; omega)
        rw [show faultAtV m N t k w = m (2329 + 3 * (faJ m t N 0 (k - 1) : Int) + w).toNat by unfold faultAtV; rw [if_pos (by omega), if_neg c_34, if_neg c_39]]
        exact z
      · try simp only [b01_0, bz_0, Classical.not_not] at c_39
        refine r_iload_n (pc := 42) dX11_faultAt_42 rfl ?_
        refine rj_if_ne (pc := 43) (tgt := 61) dX11_faultAt_43 (by decide) (by first | assumption | exact b01_r | exact bz_r | omega | (constructor <;> omega) | exact hM _ | exact hPo _ | exact hTa _ | exact hRo _) (fun c_43 => ?_) (fun c_43 => ?_)
        · try simp only [b01_0, bz_0, Classical.not_not] at c_43
          refine rj_iconst (pc := 61) dX11_faultAt_61 ?_
          refine r_ireturn (pc := 62) .int dX11_faultAt_62 rfl (by first | rfl | assumption) ?_
          first
          | exact ⟨by unfold faultAtV; rw [if_neg (by omega)], rfl⟩
          | exact ⟨by unfold faultAtV; rw [if_pos (by omega), if_neg c_34, if_pos c_39, if_pos c_43], rfl⟩
          | exact ⟨by unfold faultAtV; rw [if_pos (by omega), if_neg c_34, if_pos c_39, if_neg c_43], rfl⟩
        · try simp only [b01_0, bz_0, Classical.not_not] at c_43
          refine r_aload_n (pc := 46) dX11_faultAt_46 rfl (by first | rfl | exact isRefV_rf _) ?_
          refine rm_getf (pc := 47) dX11_faultAt_47 fX11_11 (by assumption) rfl ?_
          refine r_iload_n (pc := 50) dX11_faultAt_50 rfl ?_
          refine rj_bipush (pc := 51) dX11_faultAt_51 (by decide +kernel) ?_
          refine rj_iconst (pc := 53) dX11_faultAt_53 ?_
          refine r_callS3 (pc := 54) dX11_faultAt_54 qX11_ofTask kX11_58 sX11_ofTask (Nat.le_of_ble_eq_true rfl) (m_ofTask d) (fun v_54 h_54 q_54 => ?_)
          obtain ⟨rfl, rfl⟩ := q_54
          refine rj_iald (pc := 57) (j := (1618 + 72 * t).toNat) dX11_faultAt_57 (by first | exact isM.g0 (by assumption) | exact isM.g3 (by assumption) | exact isM.g4 (by assumption) | exact isM.g8 (by assumption) | exact isM.g7 (by assumption) | exact isM.g6 (by assumption) | exact isM.g5 (by assumption) | exact isM.g1 (by assumption) | exact isM.g2 (by assumption)) (by first | assumption | exact b01_r | exact bz_r | omega | (constructor <;> omega) | exact hM _ | exact hPo _ | exact hTa _ | exact hRo _) (by first | assumption | exact b01_r | exact bz_r | omega | (constructor <;> omega) | exact hM _ | exact hPo _ | exact hTa _ | exact hRo _) (by first | assumption | exact b01_r | exact bz_r | omega | (constructor <;> omega) | exact hM _ | exact hPo _ | exact hTa _ | exact hRo _) (by omega) ?_
          refine r_goto (pc := 58) (tgt := 62) dX11_faultAt_58 (by decide) ?_
          refine r_ireturn (pc := 62) .int dX11_faultAt_62 rfl (by first | rfl | assumption) ?_
          first
          | exact ⟨by unfold faultAtV; rw [if_neg (by omega)], rfl⟩
          | exact ⟨by unfold faultAtV; rw [if_pos (by omega), if_neg c_34, if_pos c_39, if_pos c_43], rfl⟩
          | exact ⟨by unfold faultAtV; rw [if_pos (by omega), if_neg c_34, if_pos c_39, if_neg c_43], rfl⟩
  · refine r_aload_n (pc := 4) dX11_faultAt_4 rfl (by first | rfl | exact isRefV_rf _) ?_
    refine rm_getf (pc := 5) dX11_faultAt_5 fX11_11 (by assumption) rfl ?_
    refine rj_sipush (pc := 8) dX11_faultAt_8 (by decide +kernel) ?_
    refine rj_iconst (pc := 11) dX11_faultAt_11 ?_
    refine r_iload_n (pc := 12) dX11_faultAt_12 rfl ?_
    refine rj_imul (pc := 13) dX11_faultAt_13 ?_
    refine rj_iadd (pc := 14) dX11_faultAt_14 ?_
    refine r_iload_n (pc := 15) dX11_faultAt_15 rfl ?_
    refine rj_iadd (pc := 16) dX11_faultAt_16 ?_
    refine rj_iald (pc := 17) (j := (2688 + 2 * k + w).toNat) dX11_faultAt_17 (by first | exact isM.g0 (by assumption) | exact isM.g3 (by assumption) | exact isM.g4 (by assumption) | exact isM.g8 (by assumption) | exact isM.g7 (by assumption) | exact isM.g6 (by assumption) | exact isM.g5 (by assumption) | exact isM.g1 (by assumption) | exact isM.g2 (by assumption)) (by first | assumption | exact b01_r | exact bz_r | omega | (constructor <;> omega) | exact hM _ | exact hPo _ | exact hTa _ | exact hRo _) (by first | assumption | exact b01_r | exact bz_r | omega | (constructor <;> omega) | exact hM _ | exact hPo _ | exact hTa _ | exact hRo _) (by first | assumption | exact b01_r | exact bz_r | omega | (constructor <;> omega) | exact hM _ | exact hPo _ | exact hTa _ | exact hRo _) (by omega) ?_
    refine r_ireturn (pc := 18) .int dX11_faultAt_18 rfl (by first | rfl | assumption) ?_
    first
    | exact ⟨by unfold faultAtV; rw [if_neg (by omega)], rfl⟩
    | exact ⟨by unfold faultAtV; rw [if_pos (by omega), if_neg c_34, if_pos c_39, if_pos c_43], rfl⟩
    | exact ⟨by unfold faultAtV; rw [if_pos (by omega), if_neg c_34, if_pos c_39, if_neg c_43], rfl⟩
def moveV (m : Nat → Int) (N C : Nat) (t s : Int) : Int := if (0 ≤ t ∧ t ≤ m 1 - 1) ∧ (0 ≤ s ∧ s ≤ m 0 - 1) then (if m (258 + 14 * t).toNat = 0 ∧ openP m s then entsN (movesM m t.toNat s) s N C else -3) else -1
def moveDo (m : Nat → Int) (t s : Int) : Prop := (0 ≤ t ∧ t ≤ m 1 - 1) ∧ m (258 + 14 * t).toNat = 0 ∧ openP m s
set_option maxHeartbeats 4000000 in
set_option maxRecDepth 100000 in
theorem m_move {G : mG} {l : Launch} (d : Nat) {h : mH} {x s : Nat} {f4 f6 f8 f9 f10 f11 f12 f13 f14 f16 f18 : Int} {m kp was pool tape pln pap rwd rw : Nat → Int}(hB : isM h x (mFs x f4 f6 f8 f9 f10 f11 f12 f13 f14 f16 f18 s) m kp was pool tape pln pap rwd rw) (hM : ∀ q, InR (m q)) {N C : Nat} (hN : m 1 = (N : Int)) (hcap : N ≤ 90) (hC : m 0 = (C : Int)) (hC1 : 1 ≤ C) (hC2 : C ≤ 60) {t s2 : Int} (h6 : InR (m 6 + 1)) (ht : InR t) (hs : InR s2) : RUNM G l (d + 3) mX11_move [.ref x, .int (J t), .int (J s2)] h (fun v h' => v = some (.int (J (moveV m N C t s2))) ∧ ((¬ moveDo m t s2 ∧ h' = h) ∨ (moveDo m t s2 ∧ isM h' x (mFs x f4 f6 f8 f9 f10 f11 f12 f13 f14 f16 f18 s) (movesM m t.toNat s2) kp was pool tape pln pap rwd rw ∧ Same (mBlk x) h h'))) := by
  have hB0 := hB
  dsimp only [mFs] at hB
  refine RUNM.of (by decide +kernel) (Nat.le_of_ble_eq_true rfl) ?_
  refine r_aload_n (pc := 0) dX11_move_0 rfl (by first | rfl | exact isRefV_rf _) ?_
  refine r_iload_n (pc := 1) dX11_move_1 rfl ?_
  refine r_callV1 (pc := 2) dX11_move_2 qX11_isThing kX11_238 vX11_isThing (by exact isM.gx (by assumption)) rfl rfl (Nat.le_of_ble_eq_true rfl) (m_isThing (d + 1) hB0 ht ⟨by omega, by omega⟩) (fun v_2 h_2 q_2 => ?_)
  obtain ⟨rfl, rfl⟩ := q_2
  refine rj_if_eq (pc := 5) (tgt := 16) dX11_move_5 (by decide) (by first | assumption | exact b01_r | exact bz_r | omega | (constructor <;> omega) | exact hM _ | exact hPo _ | exact hTa _ | exact hRo _) (fun c_5 => ?_) (fun c_5 => ?_)
  · try simp only [b01_0, bz_0, Classical.not_not] at c_5
    refine rj_iconst (pc := 16) dX11_move_16 ?_
    refine r_ireturn (pc := 17) .int dX11_move_17 rfl (by first | rfl | assumption) ?_
    first
    | exact ⟨by unfold moveV; rw [if_neg (fun g => c_5 g.1)], Or.inl ⟨fun g => c_5 g.1, rfl⟩⟩
    | exact ⟨by unfold moveV; rw [if_neg (fun g => c_13 g.2)], Or.inl ⟨fun g => c_13 ⟨g.2.2.1, g.2.2.2.1⟩, rfl⟩⟩
    | exact ⟨by unfold moveV; rw [if_pos ⟨c_5, c_13⟩, if_neg (fun g => c_23 g.1)], Or.inl ⟨fun g => c_23 g.2.1, rfl⟩⟩
    | exact ⟨by unfold moveV; rw [if_pos ⟨c_5, c_13⟩, if_neg (fun g => c_31 g.2)], Or.inl ⟨fun g => c_31 g.2.2, rfl⟩⟩
    | exact ⟨by unfold moveV; rw [if_pos ⟨c_5, c_13⟩, if_pos ⟨c_23, c_31⟩], Or.inr ⟨⟨c_5, c_23, c_31⟩, hB_40, hS_40⟩⟩
  · try simp only [b01_0, bz_0, Classical.not_not] at c_5
    refine r_aload_n (pc := 8) dX11_move_8 rfl (by first | rfl | exact isRefV_rf _) ?_
    refine r_iload_n (pc := 9) dX11_move_9 rfl ?_
    refine r_callV1 (pc := 10) dX11_move_10 qX11_isScope kX11_50 vX11_isScope (by exact isM.gx (by assumption)) rfl rfl (Nat.le_of_ble_eq_true rfl) (m_isScope (d + 1) hB0 hs ⟨by omega, by omega⟩) (fun v_10 h_10 q_10 => ?_)
    obtain ⟨rfl, rfl⟩ := q_10
    refine rj_if_ne (pc := 13) (tgt := 18) dX11_move_13 (by decide) (by first | assumption | exact b01_r | exact bz_r | omega | (constructor <;> omega) | exact hM _ | exact hPo _ | exact hTa _ | exact hRo _) (fun c_13 => ?_) (fun c_13 => ?_)
    · try simp only [b01_0, bz_0, Classical.not_not] at c_13
      refine r_aload_n (pc := 18) dX11_move_18 rfl (by first | rfl | exact isRefV_rf _) ?_
      refine r_iload_n (pc := 19) dX11_move_19 rfl ?_
      refine r_callV1 (pc := 20) dX11_move_20 qX11_isHeld kX11_119 vX11_isHeld (by exact isM.gx (by assumption)) rfl rfl (Nat.le_of_ble_eq_true rfl) (m_isHeld (d + 1) hB0 hM (by omega) (by omega)) (fun v_20 h_20 q_20 => ?_)
      obtain ⟨rfl, rfl⟩ := q_20
      refine rj_if_eq (pc := 23) (tgt := 34) dX11_move_23 (by decide) (by first | assumption | exact b01_r | exact bz_r | omega | (constructor <;> omega) | exact hM _ | exact hPo _ | exact hTa _ | exact hRo _) (fun c_23 => ?_) (fun c_23 => ?_)
      · try simp only [b01_0, bz_0, Classical.not_not] at c_23
        refine rj_bipush (pc := 34) dX11_move_34 (by decide +kernel) ?_
        refine r_ireturn (pc := 36) .int dX11_move_36 rfl (by first | rfl | assumption) ?_
        first
        | exact ⟨by unfold moveV; rw [if_neg (fun g => c_5 g.1)], Or.inl ⟨fun g => c_5 g.1, rfl⟩⟩
        | exact ⟨by unfold moveV; rw [if_neg (fun g => c_13 g.2)], Or.inl ⟨fun g => c_13 ⟨g.2.2.1, g.2.2.2.1⟩, rfl⟩⟩
        | exact ⟨by unfold moveV; rw [if_pos ⟨c_5, c_13⟩, if_neg (fun g => c_23 g.1)], Or.inl ⟨fun g => c_23 g.2.1, rfl⟩⟩
        | exact ⟨by unfold moveV; rw [if_pos ⟨c_5, c_13⟩, if_neg (fun g => c_31 g.2)], Or.inl ⟨fun g => c_31 g.2.2, rfl⟩⟩
        | exact ⟨by unfold moveV; rw [if_pos ⟨c_5, c_13⟩, if_pos ⟨c_23, c_31⟩], Or.inr ⟨⟨c_5, c_23, c_31⟩, hB_40, hS_40⟩⟩
      · try simp only [b01_0, bz_0, Classical.not_not] at c_23
        refine r_aload_n (pc := 26) dX11_move_26 rfl (by first | rfl | exact isRefV_rf _) ?_
        refine r_iload_n (pc := 27) dX11_move_27 rfl ?_
        refine r_callV1 (pc := 28) dX11_move_28 qX11_isOpen kX11_146 vX11_isOpen (by exact isM.gx (by assumption)) rfl rfl (Nat.le_of_ble_eq_true rfl) (m_isOpen d hB0 hM ⟨by omega, by omega⟩ hs) (fun v_28 h_28 q_28 => ?_)
        obtain ⟨rfl, rfl⟩ := q_28
        refine rj_if_ne (pc := 31) (tgt := 37) dX11_move_31 (by decide) (by first | assumption | exact b01_r | exact bz_r | omega | (constructor <;> omega) | exact hM _ | exact hPo _ | exact hTa _ | exact hRo _) (fun c_31 => ?_) (fun c_31 => ?_)
        · try simp only [b01_0, bz_0, Classical.not_not] at c_31
          refine r_aload_n (pc := 37) dX11_move_37 rfl (by first | rfl | exact isRefV_rf _) ?_
          refine r_iload_n (pc := 38) dX11_move_38 rfl ?_
          refine r_iload_n (pc := 39) dX11_move_39 rfl ?_
          refine r_callV2 (pc := 40) dX11_move_40 qX11_moves kX11_177 vX11_moves (by exact isM.gx (by assumption)) rfl rfl (Nat.le_of_ble_eq_true rfl) (by have y := m_moves (G := G) (l := l) (d + 1) (t := t.toNat) (b := s2) hB0 (by omega); rw [show ((t.toNat : Nat) : Int) = t by omega] at y; exact y) (fun v_40 h_40 q_40 => ?_)
          obtain ⟨rfl, hB_40, hS_40⟩ := q_40
          have hM2 : ∀ q, InR (movesM m t.toNat s2 q) := by
            intro q
            unfold movesM updI
            split
            · exact h6
            · split
              · exact h6
              · split
                · exact hs
                · exact hM _
          have hN2 : movesM m t.toNat s2 1 = (N : Int) := by rw [← hN]; unfold movesM updI; rw [if_neg (by omega), if_neg (by omega), if_neg (by omega)]
          have hC3 : movesM m t.toNat s2 0 = (C : Int) := by rw [← hC]; unfold movesM updI; rw [if_neg (by omega), if_neg (by omega), if_neg (by omega)]
          refine r_aload_n (pc := 43) dX11_move_43 rfl (by first | rfl | exact isRefV_rf _) ?_
          refine r_iload_n (pc := 44) dX11_move_44 rfl ?_
          refine r_callV1 (pc := 45) dX11_move_45 qX11_entries kX11_241 vX11_entries (by exact isM.gx (by assumption)) rfl rfl (Nat.le_of_ble_eq_true rfl) (m_entries d hB_40 hM2 hN2 hcap hC3 hC1 hC2 hs) (fun v_45 h_45 q_45 => ?_)
          obtain ⟨rfl, rfl⟩ := q_45
          refine r_ireturn (pc := 48) .int dX11_move_48 rfl (by first | rfl | assumption) ?_
          first
          | exact ⟨by unfold moveV; rw [if_neg (fun g => c_5 g.1)], Or.inl ⟨fun g => c_5 g.1, rfl⟩⟩
          | exact ⟨by unfold moveV; rw [if_neg (fun g => c_13 g.2)], Or.inl ⟨fun g => c_13 ⟨g.2.2.1, g.2.2.2.1⟩, rfl⟩⟩
          | exact ⟨by unfold moveV; rw [if_pos ⟨c_5, c_13⟩, if_neg (fun g => c_23 g.1)], Or.inl ⟨fun g => c_23 g.2.1, rfl⟩⟩
          | exact ⟨by unfold moveV; rw [if_pos ⟨c_5, c_13⟩, if_neg (fun g => c_31 g.2)], Or.inl ⟨fun g => c_31 g.2.2, rfl⟩⟩
          | exact ⟨by unfold moveV; rw [if_pos ⟨c_5, c_13⟩, if_pos ⟨c_23, c_31⟩], Or.inr ⟨⟨c_5, c_23, c_31⟩, hB_40, hS_40⟩⟩
        · try simp only [b01_0, bz_0, Classical.not_not] at c_31
          refine rj_bipush (pc := 34) dX11_move_34 (by decide +kernel) ?_
          refine r_ireturn (pc := 36) .int dX11_move_36 rfl (by first | rfl | assumption) ?_
          first
          | exact ⟨by unfold moveV; rw [if_neg (fun g => c_5 g.1)], Or.inl ⟨fun g => c_5 g.1, rfl⟩⟩
          | exact ⟨by unfold moveV; rw [if_neg (fun g => c_13 g.2)], Or.inl ⟨fun g => c_13 ⟨g.2.2.1, g.2.2.2.1⟩, rfl⟩⟩
          | exact ⟨by unfold moveV; rw [if_pos ⟨c_5, c_13⟩, if_neg (fun g => c_23 g.1)], Or.inl ⟨fun g => c_23 g.2.1, rfl⟩⟩
          | exact ⟨by unfold moveV; rw [if_pos ⟨c_5, c_13⟩, if_neg (fun g => c_31 g.2)], Or.inl ⟨fun g => c_31 g.2.2, rfl⟩⟩
          | exact ⟨by unfold moveV; rw [if_pos ⟨c_5, c_13⟩, if_pos ⟨c_23, c_31⟩], Or.inr ⟨⟨c_5, c_23, c_31⟩, hB_40, hS_40⟩⟩
    · try simp only [b01_0, bz_0, Classical.not_not] at c_13
      refine rj_iconst (pc := 16) dX11_move_16 ?_
      refine r_ireturn (pc := 17) .int dX11_move_17 rfl (by first | rfl | assumption) ?_
      first
      | exact ⟨by unfold moveV; rw [if_neg (fun g => c_5 g.1)], Or.inl ⟨fun g => c_5 g.1, rfl⟩⟩
      | exact ⟨by unfold moveV; rw [if_neg (fun g => c_13 g.2)], Or.inl ⟨fun g => c_13 ⟨g.2.2.1, g.2.2.2.1⟩, rfl⟩⟩
      | exact ⟨by unfold moveV; rw [if_pos ⟨c_5, c_13⟩, if_neg (fun g => c_23 g.1)], Or.inl ⟨fun g => c_23 g.2.1, rfl⟩⟩
      | exact ⟨by unfold moveV; rw [if_pos ⟨c_5, c_13⟩, if_neg (fun g => c_31 g.2)], Or.inl ⟨fun g => c_31 g.2.2, rfl⟩⟩
      | exact ⟨by unfold moveV; rw [if_pos ⟨c_5, c_13⟩, if_pos ⟨c_23, c_31⟩], Or.inr ⟨⟨c_5, c_23, c_31⟩, hB_40, hS_40⟩⟩
