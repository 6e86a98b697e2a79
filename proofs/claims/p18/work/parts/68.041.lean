section mg_73
set_option maxHeartbeats 4000000 in
set_option maxRecDepth 100000 in
theorem L_copyUp {G : mG} {l : Launch} (d : Nat) {x s : Nat} {f4 f6 f8 f9 f10 f11 f12 f13 f14 f16 f18 : Int} {m kp was pool tape pln pap rwd rw : Nat → Int} {r i o j n : Int} (hc : copyDo rwd r i o j n) (h40 : ∀ q, rwd q ≤ 40) (hij : j < i) : ∀ (k e : Nat) (h : mH) (v7 : Option Value), (e : Int) + k = n → isM h x (mFs x f4 f6 f8 f9 f10 f11 f12 f13 f14 f16 f18 s) m kp was pool tape pln pap rwd (cpR rw (40 * r + i).toNat (40 * o + j).toNat 0 e) → RUN G l d mX11_copy 84 [some (.ref x), some (.int (J r)), some (.int (J i)), some (.int (J o)), some (.int (J j)), some (.int (J n)), some (.int (J (e : Int))), v7] [] h (fun v h' => v = some (.int (J n)) ∧ isM h' x (mFs x f4 f6 f8 f9 f10 f11 f12 f13 f14 f16 f18 s) m kp was pool tape pln pap rwd (cpR rw (40 * r + i).toNat (40 * o + j).toNat 0 n.toNat) ∧ Same (mBlk x) h h') := by
  obtain ⟨⟨⟨r0, r3⟩, ⟨o0, o3⟩⟩, ⟨w1, w2⟩, n0, i0, j0, ni, nj⟩ := id hc
  have q1 := h40 r.toNat
  have q2 := h40 o.toNat
  intro k
  induction k with
  | zero =>
    intro e h v7 he hB
    have hB0 := hB
    dsimp only [mFs] at hB
    refine r_iload (pc := 84) dX11_copy_84 rfl ?_
    refine r_iload (pc := 86) dX11_copy_86 rfl ?_
    refine rj_icmp_ge (pc := 88) (tgt := 146) dX11_copy_88 (by decide) (by first | assumption | exact b01_r | exact bz_r | omega | (constructor <;> omega) | exact hM _ | exact hPo _ | exact hTa _ | exact hRo _) (by first | assumption | exact b01_r | exact bz_r | omega | (constructor <;> omega) | exact hM _ | exact hPo _ | exact hTa _ | exact hRo _) (fun c_88 => ?_) (fun c_88 => ?_)
    · refine r_iload (pc := 146) dX11_copy_146 rfl ?_
      refine r_ireturn (pc := 148) .int dX11_copy_148 rfl (by first | rfl | assumption) ?_
      have en : e = n.toNat := by omega
      subst en
      exact ⟨rfl, hB0, Same.refl⟩
    · exfalso; omega
  | succ k ih =>
    intro e h v7 he hB
    have hB0 := hB
    dsimp only [mFs] at hB
    refine r_iload (pc := 84) dX11_copy_84 rfl ?_
    refine r_iload (pc := 86) dX11_copy_86 rfl ?_
    refine rj_icmp_ge (pc := 88) (tgt := 146) dX11_copy_88 (by decide) (by first | assumption | exact b01_r | exact bz_r | omega | (constructor <;> omega) | exact hM _ | exact hPo _ | exact hTa _ | exact hRo _) (by first | assumption | exact b01_r | exact bz_r | omega | (constructor <;> omega) | exact hM _ | exact hPo _ | exact hTa _ | exact hRo _) (fun c_88 => ?_) (fun c_88 => ?_)
    · exfalso; omega
    · refine r_iload_n (pc := 91) dX11_copy_91 rfl ?_
      refine r_iload (pc := 92) dX11_copy_92 rfl ?_
      refine rj_icmp_le (pc := 94) (tgt := 102) dX11_copy_94 (by decide) (by first | assumption | exact b01_r | exact bz_r | omega | (constructor <;> omega) | exact hM _ | exact hPo _ | exact hTa _ | exact hRo _) (by first | assumption | exact b01_r | exact bz_r | omega | (constructor <;> omega) | exact hM _ | exact hPo _ | exact hTa _ | exact hRo _) (fun c_94 => ?_) (fun c_94 => ?_)
      · exfalso; omega
      · refine r_iload (pc := 97) dX11_copy_97 rfl ?_
        refine r_goto (pc := 99) (tgt := 109) dX11_copy_99 (by decide) ?_
        refine r_istore (pc := 109) dX11_copy_109 (Nat.le_of_ble_eq_true rfl) ?_
        dsimp only [lsSt, List.set, mLs, mEnt]
        refine r_aload_n (pc := 111) dX11_copy_111 rfl (by first | rfl | exact isRefV_rf _) ?_
        refine rm_getf (pc := 112) dX11_copy_112 fX11_39 (by assumption) rfl ?_
        refine rj_bipush (pc := 115) dX11_copy_115 (by decide +kernel) ?_
        refine r_iload_n (pc := 117) dX11_copy_117 rfl ?_
        refine rj_imul (pc := 118) dX11_copy_118 ?_
        refine r_iload (pc := 119) dX11_copy_119 rfl ?_
        refine rj_iadd (pc := 121) dX11_copy_121 ?_
        refine r_iload (pc := 122) dX11_copy_122 rfl ?_
        refine rj_iadd (pc := 124) dX11_copy_124 ?_
        refine r_aload_n (pc := 125) dX11_copy_125 rfl (by first | rfl | exact isRefV_rf _) ?_
        refine rm_getf (pc := 126) dX11_copy_126 fX11_39 (by assumption) rfl ?_
        refine rj_bipush (pc := 129) dX11_copy_129 (by decide +kernel) ?_
        refine r_iload_n (pc := 131) dX11_copy_131 rfl ?_
        refine rj_imul (pc := 132) dX11_copy_132 ?_
        refine r_iload_n (pc := 133) dX11_copy_133 rfl ?_
        refine rj_iadd (pc := 134) dX11_copy_134 ?_
        refine r_iload (pc := 135) dX11_copy_135 rfl ?_
        refine rj_iadd (pc := 137) dX11_copy_137 ?_
        refine rj_iald (pc := 138) (j := (40 * r + i).toNat + e) dX11_copy_138 (by first | exact isM.g0 (by assumption) | exact isM.g3 (by assumption) | exact isM.g4 (by assumption) | exact isM.g8 (by assumption) | exact isM.g7 (by assumption) | exact isM.g6 (by assumption) | exact isM.g5 (by assumption) | exact isM.g1 (by assumption) | exact isM.g2 (by assumption)) (by first | assumption | exact b01_r | exact bz_r | omega | (constructor <;> omega) | exact hM _ | exact hPo _ | exact hTa _ | exact hRo _) (by first | assumption | exact b01_r | exact bz_r | omega | (constructor <;> omega) | exact hM _ | exact hPo _ | exact hTa _ | exact hRo _) (by first | assumption | exact b01_r | exact bz_r | omega | (constructor <;> omega) | exact hM _ | exact hPo _ | exact hTa _ | exact hRo _) (by omega) ?_
        have e1 : cpR rw (40 * r + i).toNat (40 * o + j).toNat 0 e ((40 * r + i).toNat + e) = rw ((40 * r + i).toNat + e) := cpR_n (by omega)
        rw [e1]
        first | refine rm_iast8 (pc := 139) (j := (40 * o + j).toNat + e) dX11_copy_139 (by assumption) (by first | assumption | exact b01_r | exact bz_r | omega | (constructor <;> omega) | exact hM _ | exact hPo _ | exact hTa _ | exact hRo _) (by first | assumption | exact b01_r | exact bz_r | omega | (constructor <;> omega) | exact hM _ | exact hPo _ | exact hTa _ | exact hRo _) (by first | assumption | exact b01_r | exact bz_r | omega | (constructor <;> omega) | exact hM _ | exact hPo _ | exact hTa _ | exact hRo _) (by omega) (fun h_139 hB_139 hS_139 => ?_)
        rw [cpR_up] at hB_139
        refine rj_iinc (pc := 140) dX11_copy_140 (Nat.le_of_ble_eq_true rfl) rfl ?_
        dsimp only [lsSt, List.set, mLs, mEnt]
        refine r_goto (pc := 143) (tgt := 84) dX11_copy_143 (by decide) ?_
        rw [show ((e : Int) + 1) = ((e + 1 : Nat) : Int) by omega]
        exact (ih (e + 1) _ _ (by omega) hB_139).mono (fun v h' q => ⟨q.1, q.2.1, hS_139.trans q.2.2⟩)
end mg_73
