section mg_24
set_option maxHeartbeats 4000000 in
set_option maxRecDepth 100000 in
theorem L_number {G : mG} {l : Launch} (d : Nat) {x s : Nat} {f4 f6 f9 f14 f16 f18 : Int} {m kp was pool tape pln pap rwd rw sr : Nat → Int} (hT : txOk s sr pool tape f9) {F : Nat} (hF : F ≤ 5) {lo hi b : Int} (hlo : InR lo) (hhi : InR hi) (hb0 : 0 ≤ b) (hb1 : b ≤ f9) : ∀ (n k : Nat) (q : PS) (h : mH), isM h x (mFs x f4 f6 q.1 f9 q.2.1 q.2.2.1 q.2.2.2.1 q.2.2.2.2 f14 f16 f18 s) m kp was pool tape pln pap rwd rw → psOk f9 q → k + n = F → q.2.2.1 ≤ bnd n → RUN G l (d + 3) mX11_isNumber 37 [some (.ref x), some (.int (J (F : Int))), some (.int (J lo)), some (.int (J hi)), some (.int (J b)), some (.int (J (k : Int)))] [] h (fun v h' => v = some (.int (J (b01 (lo ≤ (numL sr f9 n q).2.2.1 ∧ (numL sr f9 n q).2.2.1 ≤ hi)))) ∧ isM h' x (mFs x f4 f6 (finF b lo hi (numL sr f9 n q)).1 f9 (finF b lo hi (numL sr f9 n q)).2.1 (finF b lo hi (numL sr f9 n q)).2.2.1 (finF b lo hi (numL sr f9 n q)).2.2.2.1 (finF b lo hi (numL sr f9 n q)).2.2.2.2 f14 f16 f18 s) m kp was pool tape pln pap rwd rw ∧ Same (mBlk x) h h') := by
  obtain ⟨hs, hl0, hby⟩ := id hT
  have h97 : f9 ≤ 12342 := by rcases hs with h | h <;> omega
  intro n
  induction n with
  | zero =>
    intro k q h hB hq hk hf
    have hB0 := hB
    dsimp only [mFs] at hB
    obtain ⟨hq1, hq2, hq3, hq4, hq5, hq6, hq7, hq8⟩ := id hq
    have hh := here_r hT q.1
    refine r_iload (pc := 37) dX11_isNumber_37 rfl ?_
    refine r_iload_n (pc := 39) dX11_isNumber_39 rfl ?_
    refine rj_icmp_ge (pc := 40) (tgt := 92) dX11_isNumber_40 (by decide) (by first | assumption | exact b01_r | exact bz_r | omega | (constructor <;> omega) | exact hM _ | exact hPo _ | exact hTa _ | exact hRo _) (by first | assumption | exact b01_r | exact bz_r | omega | (constructor <;> omega) | exact hM _ | exact hPo _ | exact hTa _ | exact hRo _) (fun c_40 => ?_) (fun c_40 => ?_)
    · rw [show numL sr f9 0 q = q from rfl]
      refine r_aload_n (pc := 92) dX11_isNumber_92 rfl (by first | rfl | exact isRefV_rf _) ?_
      refine rm_getf (pc := 93) dX11_isNumber_93 fX11_81 (by assumption) rfl ?_
      refine r_iload_n (pc := 96) dX11_isNumber_96 rfl ?_
      refine r_iload_n (pc := 97) dX11_isNumber_97 rfl ?_
      refine r_callS3 (pc := 98) dX11_isNumber_98 qX11_isIn kX11_46 sX11_isIn (Nat.le_of_ble_eq_true rfl) (m_isIn (d + 2) ⟨by omega, by omega⟩ hlo hhi) (fun v_98 h_98 q_98 => ?_)
      obtain ⟨rfl, rfl⟩ := q_98
      refine rj_if_ne (pc := 101) (tgt := 113) dX11_isNumber_101 (by decide) (by first | assumption | exact b01_r | exact bz_r | omega | (constructor <;> omega) | exact hM _ | exact hPo _ | exact hTa _ | exact hRo _) (fun c_101 => ?_) (fun c_101 => ?_)
      · try simp only [b01_0, bz_0, Classical.not_not] at c_101
        refine rj_iconst (pc := 113) dX11_isNumber_113 ?_
        refine r_goto (pc := 114) (tgt := 118) dX11_isNumber_114 (by decide) ?_
        refine r_ireturn (pc := 118) .boolean dX11_isNumber_118 rfl (by first | exact nar_J0 | exact nar_J1 | exact nar_b01 | exact nar_bz) ?_
        first
        | exact ⟨vt c_101, by unfold finF; rw [if_pos c_101]; exact hB0, Same.refl⟩
        | exact ⟨vf c_101, by unfold finF; rw [if_neg c_101]; exact hB_107, hS_107⟩
        | exact absurd trivial c_110
      · try simp only [b01_0, bz_0, Classical.not_not] at c_101
        refine r_aload_n (pc := 104) dX11_isNumber_104 rfl (by first | rfl | exact isRefV_rf _) ?_
        refine r_iload (pc := 105) dX11_isNumber_105 rfl ?_
        refine r_callV1 (pc := 107) dX11_isNumber_107 qX11_fails kX11_78 vX11_fails (by exact isM.gx (by assumption)) rfl rfl (Nat.le_of_ble_eq_true rfl) (m_fails (d + 2) hB0 hT hq) (fun v_107 h_107 q_107 => ?_)
        obtain ⟨rfl, hB_107, hS_107⟩ := q_107
        refine rj_if_eq (pc := 110) (tgt := 117) dX11_isNumber_110 (by decide) (by first | assumption | exact b01_r | exact bz_r | omega | (constructor <;> omega) | exact hM _ | exact hPo _ | exact hTa _ | exact hRo _) (fun c_110 => ?_) (fun c_110 => ?_)
        · try simp only [b01_0, bz_0, Classical.not_not] at c_110
          refine rj_iconst (pc := 117) dX11_isNumber_117 ?_
          refine r_ireturn (pc := 118) .boolean dX11_isNumber_118 rfl (by first | exact nar_J0 | exact nar_J1 | exact nar_b01 | exact nar_bz) ?_
          first
          | exact ⟨vt c_101, by unfold finF; rw [if_pos c_101]; exact hB0, Same.refl⟩
          | exact ⟨vf c_101, by unfold finF; rw [if_neg c_101]; exact hB_107, hS_107⟩
          | exact absurd trivial c_110
        · try simp only [b01_0, bz_0, Classical.not_not] at c_110
          refine rj_iconst (pc := 113) dX11_isNumber_113 ?_
          refine r_goto (pc := 114) (tgt := 118) dX11_isNumber_114 (by decide) ?_
          refine r_ireturn (pc := 118) .boolean dX11_isNumber_118 rfl (by first | exact nar_J0 | exact nar_J1 | exact nar_b01 | exact nar_bz) ?_
          first
          | exact ⟨vt c_101, by unfold finF; rw [if_pos c_101]; exact hB0, Same.refl⟩
          | exact ⟨vf c_101, by unfold finF; rw [if_neg c_101]; exact hB_107, hS_107⟩
          | exact absurd trivial c_110
    · exfalso; omega
  | succ n ih =>
    intro k q h hB hq hk hf
    have hB0 := hB
    dsimp only [mFs] at hB
    obtain ⟨hq1, hq2, hq3, hq4, hq5, hq6, hq7, hq8⟩ := id hq
    have hh := here_r hT q.1
    refine r_iload (pc := 37) dX11_isNumber_37 rfl ?_
    refine r_iload_n (pc := 39) dX11_isNumber_39 rfl ?_
    refine rj_icmp_ge (pc := 40) (tgt := 92) dX11_isNumber_40 (by decide) (by first | assumption | exact b01_r | exact bz_r | omega | (constructor <;> omega) | exact hM _ | exact hPo _ | exact hTa _ | exact hRo _) (by first | assumption | exact b01_r | exact bz_r | omega | (constructor <;> omega) | exact hM _ | exact hPo _ | exact hTa _ | exact hRo _) (fun c_40 => ?_) (fun c_40 => ?_)
    · exfalso; omega
    · refine r_aload_n (pc := 43) dX11_isNumber_43 rfl (by first | rfl | exact isRefV_rf _) ?_
      refine r_callV0 (pc := 44) dX11_isNumber_44 qX11_here kX11_74 vX11_here (by exact isM.gx (by assumption)) rfl rfl (Nat.le_of_ble_eq_true rfl) (m_here (d + 2) hB0 hT hq) (fun v_44 h_44 q_44 => ?_)
      obtain ⟨rfl, rfl⟩ := q_44
      refine rj_bipush (pc := 47) dX11_isNumber_47 (by decide +kernel) ?_
      refine rj_bipush (pc := 49) dX11_isNumber_49 (by decide +kernel) ?_
      refine r_callS3 (pc := 51) dX11_isNumber_51 qX11_isIn kX11_46 sX11_isIn (Nat.le_of_ble_eq_true rfl) (m_isIn (d + 2) ⟨by omega, by omega⟩ (by decide) (by decide)) (fun v_51 h_51 q_51 => ?_)
      obtain ⟨rfl, rfl⟩ := q_51
      refine rj_if_eq (pc := 54) (tgt := 92) dX11_isNumber_54 (by decide) (by first | assumption | exact b01_r | exact bz_r | omega | (constructor <;> omega) | exact hM _ | exact hPo _ | exact hTa _ | exact hRo _) (fun c_54 => ?_) (fun c_54 => ?_)
      · try simp only [b01_0, bz_0, Classical.not_not] at c_54
        rw [show numL sr f9 (n + 1) q = q by unfold numL; rw [if_neg c_54]]
        refine r_aload_n (pc := 92) dX11_isNumber_92 rfl (by first | rfl | exact isRefV_rf _) ?_
        refine rm_getf (pc := 93) dX11_isNumber_93 fX11_81 (by assumption) rfl ?_
        refine r_iload_n (pc := 96) dX11_isNumber_96 rfl ?_
        refine r_iload_n (pc := 97) dX11_isNumber_97 rfl ?_
        refine r_callS3 (pc := 98) dX11_isNumber_98 qX11_isIn kX11_46 sX11_isIn (Nat.le_of_ble_eq_true rfl) (m_isIn (d + 2) ⟨by omega, by omega⟩ hlo hhi) (fun v_98 h_98 q_98 => ?_)
        obtain ⟨rfl, rfl⟩ := q_98
        refine rj_if_ne (pc := 101) (tgt := 113) dX11_isNumber_101 (by decide) (by first | assumption | exact b01_r | exact bz_r | omega | (constructor <;> omega) | exact hM _ | exact hPo _ | exact hTa _ | exact hRo _) (fun c_101 => ?_) (fun c_101 => ?_)
        · try simp only [b01_0, bz_0, Classical.not_not] at c_101
          refine rj_iconst (pc := 113) dX11_isNumber_113 ?_
          refine r_goto (pc := 114) (tgt := 118) dX11_isNumber_114 (by decide) ?_
          refine r_ireturn (pc := 118) .boolean dX11_isNumber_118 rfl (by first | exact nar_J0 | exact nar_J1 | exact nar_b01 | exact nar_bz) ?_
          first
          | exact ⟨vt c_101, by unfold finF; rw [if_pos c_101]; exact hB0, Same.refl⟩
          | exact ⟨vf c_101, by unfold finF; rw [if_neg c_101]; exact hB_107, hS_107⟩
          | exact absurd trivial c_110
        · try simp only [b01_0, bz_0, Classical.not_not] at c_101
          refine r_aload_n (pc := 104) dX11_isNumber_104 rfl (by first | rfl | exact isRefV_rf _) ?_
          refine r_iload (pc := 105) dX11_isNumber_105 rfl ?_
          refine r_callV1 (pc := 107) dX11_isNumber_107 qX11_fails kX11_78 vX11_fails (by exact isM.gx (by assumption)) rfl rfl (Nat.le_of_ble_eq_true rfl) (m_fails (d + 2) hB0 hT hq) (fun v_107 h_107 q_107 => ?_)
          obtain ⟨rfl, hB_107, hS_107⟩ := q_107
          refine rj_if_eq (pc := 110) (tgt := 117) dX11_isNumber_110 (by decide) (by first | assumption | exact b01_r | exact bz_r | omega | (constructor <;> omega) | exact hM _ | exact hPo _ | exact hTa _ | exact hRo _) (fun c_110 => ?_) (fun c_110 => ?_)
          · try simp only [b01_0, bz_0, Classical.not_not] at c_110
            refine rj_iconst (pc := 117) dX11_isNumber_117 ?_
            refine r_ireturn (pc := 118) .boolean dX11_isNumber_118 rfl (by first | exact nar_J0 | exact nar_J1 | exact nar_b01 | exact nar_bz) ?_
            first
            | exact ⟨vt c_101, by unfold finF; rw [if_pos c_101]; exact hB0, Same.refl⟩
            | exact ⟨vf c_101, by unfold finF; rw [if_neg c_101]; exact hB_107, hS_107⟩
            | exact absurd trivial c_110
          · try simp only [b01_0, bz_0, Classical.not_not] at c_110
            refine rj_iconst (pc := 113) dX11_isNumber_113 ?_
            refine r_goto (pc := 114) (tgt := 118) dX11_isNumber_114 (by decide) ?_
            refine r_ireturn (pc := 118) .boolean dX11_isNumber_118 rfl (by first | exact nar_J0 | exact nar_J1 | exact nar_b01 | exact nar_bz) ?_
            first
            | exact ⟨vt c_101, by unfold finF; rw [if_pos c_101]; exact hB0, Same.refl⟩
            | exact ⟨vf c_101, by unfold finF; rw [if_neg c_101]; exact hB_107, hS_107⟩
            | exact absurd trivial c_110
      · try simp only [b01_0, bz_0, Classical.not_not] at c_54
        refine r_aload_n (pc := 57) dX11_isNumber_57 rfl (by first | rfl | exact isRefV_rf _) ?_
        refine rj_bipush (pc := 58) dX11_isNumber_58 (by decide +kernel) ?_
        refine r_aload_n (pc := 60) dX11_isNumber_60 rfl (by first | rfl | exact isRefV_rf _) ?_
        refine rm_getf (pc := 61) dX11_isNumber_61 fX11_81 (by assumption) rfl ?_
        refine rj_imul (pc := 64) dX11_isNumber_64 ?_
        refine r_aload_n (pc := 65) dX11_isNumber_65 rfl (by first | rfl | exact isRefV_rf _) ?_
        refine r_callV0 (pc := 66) dX11_isNumber_66 qX11_here kX11_74 vX11_here (by exact isM.gx (by assumption)) rfl rfl (Nat.le_of_ble_eq_true rfl) (m_here (d + 2) hB0 hT hq) (fun v_66 h_66 q_66 => ?_)
        obtain ⟨rfl, rfl⟩ := q_66
        refine rj_iadd (pc := 69) dX11_isNumber_69 ?_
        refine rj_bipush (pc := 70) dX11_isNumber_70 (by decide +kernel) ?_
        refine rj_isub (pc := 72) dX11_isNumber_72 ?_
        refine rm_putf (pc := 73) dX11_isNumber_73 fX11_81 (by assumption) rfl rfl (Nat.le_of_ble_eq_true rfl) (fun h_73 hB_73 hS_73 => ?_)
        dsimp only [List.set, mFs] at hB_73
        refine r_aload_n (pc := 76) dX11_isNumber_76 rfl (by first | rfl | exact isRefV_rf _) ?_
        refine r_dup (pc := 77) dX11_isNumber_77 (by first | rfl | (cases ‹Option Nat› <;> rfl)) ?_
        refine rm_getf (pc := 78) dX11_isNumber_78 fX11_65 (by assumption) rfl ?_
        refine rj_iconst (pc := 81) dX11_isNumber_81 ?_
        refine rj_iadd (pc := 82) dX11_isNumber_82 ?_
        refine rm_putf (pc := 83) dX11_isNumber_83 fX11_65 (by assumption) rfl rfl (Nat.le_of_ble_eq_true rfl) (fun h_83 hB_83 hS_83 => ?_)
        dsimp only [List.set, mFs] at hB_83
        refine rj_iinc (pc := 86) dX11_isNumber_86 (Nat.le_of_ble_eq_true rfl) rfl ?_
        dsimp only [lsSt, List.set, mLs, mEnt]
        refine r_goto (pc := 89) (tgt := 37) dX11_isNumber_89 (by decide) ?_
        have hl := here_lt (sr := sr) (len := f9) (a := q.1) (by omega)
        have hb := bnd_s n (by omega)
        have hb0 := bnd_0 n
        have z := ih (k + 1) (q.1 + 1, q.2.1, 10 * q.2.2.1 + hereF sr f9 q.1 - 48, q.2.2.2) _ hB_83 ⟨by dsimp only; omega, by dsimp only; omega, hq3, hq4, by dsimp only; omega, by dsimp only; omega, hq7, by dsimp only; omega⟩ (by omega) (by dsimp only; omega)
        rw [show numL sr f9 (n + 1) q = numL sr f9 n (q.1 + 1, q.2.1, 10 * q.2.2.1 + hereF sr f9 q.1 - 48, q.2.2.2) by rw [numL, if_pos c_54]]
        exact z.mono (fun v h' g => ⟨g.1, g.2.1, (hS_73.trans hS_83).trans g.2.2⟩)
end mg_24
