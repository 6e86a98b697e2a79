section mg_9j
set_option maxHeartbeats 4000000 in
set_option maxRecDepth 100000 in
theorem L_planned {G : mG} {l : Launch} (d : Nat) {h : mH} {w : Nat} {c : Nat → Int} {C : Nat → Nat → Int} {nm : Nat → Int64} {g : Nat → Option Nat} (hW : isW h w c C nm g) (hc : ∀ q, InR (c q)) {Z : Nat} (hZ : c 10 = (Z : Int)) (hcapZ : Z ≤ 150) (hC : ∀ q, InR (C 2 q)) (hO : oOk c) {s i : Int} (hs : 0 ≤ s ∧ s ≤ 59) (hi : InR i) : ∀ (n k : Nat) (wi p mn : Int), k + n = 1000000 → (-5 ≤ wi ∧ wi ≤ 2147483547) → (-2 ≤ p ∧ p < Z) → (0 ≤ mn ∧ mn ≤ k) → RUN G l (d + 3) mX9_planned 19 [some (.ref w), some (.int (J s)), some (.int (J i)), some (.int (J mn)), some (.int (J wi)), some (.int (J p)), some (.int (J (k : Int)))] [] h (fun v h' => v = some (.int (J (pcL c (C 2) Z s i n wi p mn))) ∧ h' = h) := by
  intro n
  induction n with
  | zero =>
    intro k wi p mn hk hwi hp hmn
    refine r_iload (pc := 19) dX9_planned_19 rfl ?_
    refine rj_ldc 1000000 (pc := 21) dX9_planned_21 oX9_160 (by decide +kernel) ?_
    refine rj_icmp_ge (pc := 23) (tgt := 160) dX9_planned_23 (by decide) (by first | exact b01_r | exact bz_r | omega | (constructor <;> omega) | apply_assumption | (apply atF_r; assumption) | fail "no range") (by first | exact b01_r | exact bz_r | omega | (constructor <;> omega) | apply_assumption | (apply atF_r; assumption) | fail "no range") (fun c_23 => ?_) (fun c_23 => ?_)
    · refine r_iload_n (pc := 160) dX9_planned_160 rfl ?_
      refine rj_iconst (pc := 161) dX9_planned_161 ?_
      refine rj_icmp_ne (pc := 162) (tgt := 169) dX9_planned_162 (by decide) (by first | exact b01_r | exact bz_r | omega | (constructor <;> omega) | apply_assumption | (apply atF_r; assumption) | fail "no range") (by first | exact b01_r | exact bz_r | omega | (constructor <;> omega) | apply_assumption | (apply atF_r; assumption) | fail "no range") (fun c_162 => ?_) (fun c_162 => ?_)
      · refine rj_iconst (pc := 169) dX9_planned_169 ?_
        refine r_ireturn (pc := 170) .int dX9_planned_170 rfl (by first | rfl | assumption) ?_
        first | exact ⟨by rw [pcL, if_pos (by omega)], rfl⟩ | exact ⟨by rw [pcL, if_neg (by omega)], rfl⟩
      · refine r_iload_n (pc := 165) dX9_planned_165 rfl ?_
        refine r_goto (pc := 166) (tgt := 170) dX9_planned_166 (by decide) ?_
        refine r_ireturn (pc := 170) .int dX9_planned_170 rfl (by first | rfl | assumption) ?_
        first | exact ⟨by rw [pcL, if_pos (by omega)], rfl⟩ | exact ⟨by rw [pcL, if_neg (by omega)], rfl⟩
    · exfalso; omega
  | succ n ih =>
    intro k wi p mn hk hwi hp hmn
    have e1 : ((k + 1 : Nat) : Int) = (k : Int) + 1 := by omega
    refine r_iload (pc := 19) dX9_planned_19 rfl ?_
    refine rj_ldc 1000000 (pc := 21) dX9_planned_21 oX9_160 (by decide +kernel) ?_
    refine rj_icmp_ge (pc := 23) (tgt := 160) dX9_planned_23 (by decide) (by first | exact b01_r | exact bz_r | omega | (constructor <;> omega) | apply_assumption | (apply atF_r; assumption) | fail "no range") (by first | exact b01_r | exact bz_r | omega | (constructor <;> omega) | apply_assumption | (apply atF_r; assumption) | fail "no range") (fun c_23 => ?_) (fun c_23 => ?_)
    · exfalso; omega
    · refine r_iload (pc := 26) dX9_planned_26 rfl ?_
      refine rj_if_ge (pc := 28) (tgt := 67) dX9_planned_28 (by decide) (by first | exact b01_r | exact bz_r | omega | (constructor <;> omega) | apply_assumption | (apply atF_r; assumption) | fail "no range") (fun c_28 => ?_) (fun c_28 => ?_)
      · refine r_aload_n (pc := 67) dX9_planned_67 rfl (by first | rfl | exact isRefV_rf _) ?_
        refine r_aload_n (pc := 68) dX9_planned_68 rfl (by first | rfl | exact isRefV_rf _) ?_
        refine r_getf (pc := 69) dX9_planned_69 fX9_41 (by first | assumption | exact isI.gx (by assumption) | exact isI.gc (by assumption) | exact isW.gx (by assumption) | exact isW.gF (by assumption) | exact isW.gT (by assumption) (by omega) | exact isW.gS (by assumption) (by omega) | exact isW.gK (by assumption) (by omega) | exact isW.g1 (by assumption) | exact isW.g2 (by assumption) | exact isW.g3 (by assumption) | exact isI.gx (isW.i0 (by assumption)) | exact isI.gc (isW.i0 (by assumption)) | exact isI.gx (isW.i1 (by assumption)) | exact isI.gc (isW.i1 (by assumption)) | exact isI.gx (isW.i2 (by assumption)) | exact isI.gc (isW.i2 (by assumption)) | exact isI.gx (isW.i3 (by assumption)) | exact isI.gc (isW.i3 (by assumption)) | exact isI.gx (isW.i4 (by assumption)) | exact isI.gc (isW.i4 (by assumption)) | exact isI.gx (isW.i5 (by assumption)) | exact isI.gc (isW.i5 (by assumption)) | exact isR.gx (by assumption) | exact isRd.gx (by assumption) | exact isSp.gx (by assumption) | exact isI.gx (isR.i (by assumption)) | exact isI.gx (isRd.i (by assumption)) | exact isI.gc (isRd.i (by assumption)) | exact isI.gx (isSp.i (by assumption)) | exact isW.gx (isR.w (by assumption)) | exact isW.gF (isR.w (by assumption)) | fail "no such object") (by rfl) ?_
        refine r_iload (pc := 72) dX9_planned_72 rfl ?_
        obtain ⟨P, rfl⟩ : ∃ q : Nat, p = (q : Int) := ⟨p.toNat, by omega⟩
        have rP := hC P
        refine r_callV1 (pc := 74) dX9_planned_74 qX1_at kX9_147 vX1_at (by first | assumption | exact isI.gx (by assumption) | exact isI.gc (by assumption) | exact isW.gx (by assumption) | exact isW.gF (by assumption) | exact isW.gT (by assumption) (by omega) | exact isW.gS (by assumption) (by omega) | exact isW.gK (by assumption) (by omega) | exact isW.g1 (by assumption) | exact isW.g2 (by assumption) | exact isW.g3 (by assumption) | exact isI.gx (isW.i0 (by assumption)) | exact isI.gc (isW.i0 (by assumption)) | exact isI.gx (isW.i1 (by assumption)) | exact isI.gc (isW.i1 (by assumption)) | exact isI.gx (isW.i2 (by assumption)) | exact isI.gc (isW.i2 (by assumption)) | exact isI.gx (isW.i3 (by assumption)) | exact isI.gc (isW.i3 (by assumption)) | exact isI.gx (isW.i4 (by assumption)) | exact isI.gc (isW.i4 (by assumption)) | exact isI.gx (isW.i5 (by assumption)) | exact isI.gc (isW.i5 (by assumption)) | exact isR.gx (by assumption) | exact isRd.gx (by assumption) | exact isSp.gx (by assumption) | exact isI.gx (isR.i (by assumption)) | exact isI.gx (isRd.i (by assumption)) | exact isI.gc (isRd.i (by assumption)) | exact isI.gx (isSp.i (by assumption)) | exact isW.gx (isR.w (by assumption)) | exact isW.gF (isR.w (by assumption)) | fail "no such object") rfl rfl (Nat.le_of_ble_eq_true rfl) (cn_ent _ hW hc hZ hcapZ hC (t := P) (by omega)) (fun v_74 h_74 q_74 => ?_)
        obtain ⟨rfl, rfl⟩ := q_74
        refine r_callV1 (pc := 77) dX9_planned_77 qX9_ownerOf kX9_151 vX9_ownerOf (by first | assumption | exact isI.gx (by assumption) | exact isI.gc (by assumption) | exact isW.gx (by assumption) | exact isW.gF (by assumption) | exact isW.gT (by assumption) (by omega) | exact isW.gS (by assumption) (by omega) | exact isW.gK (by assumption) (by omega) | exact isW.g1 (by assumption) | exact isW.g2 (by assumption) | exact isW.g3 (by assumption) | exact isI.gx (isW.i0 (by assumption)) | exact isI.gc (isW.i0 (by assumption)) | exact isI.gx (isW.i1 (by assumption)) | exact isI.gc (isW.i1 (by assumption)) | exact isI.gx (isW.i2 (by assumption)) | exact isI.gc (isW.i2 (by assumption)) | exact isI.gx (isW.i3 (by assumption)) | exact isI.gc (isW.i3 (by assumption)) | exact isI.gx (isW.i4 (by assumption)) | exact isI.gc (isW.i4 (by assumption)) | exact isI.gx (isW.i5 (by assumption)) | exact isI.gc (isW.i5 (by assumption)) | exact isR.gx (by assumption) | exact isRd.gx (by assumption) | exact isSp.gx (by assumption) | exact isI.gx (isR.i (by assumption)) | exact isI.gx (isRd.i (by assumption)) | exact isI.gc (isRd.i (by assumption)) | exact isI.gx (isSp.i (by assumption)) | exact isW.gx (isR.w (by assumption)) | exact isW.gF (isR.w (by assumption)) | fail "no such object") rfl rfl (Nat.le_of_ble_eq_true rfl) (cw_ownerOf _ hW hc (i := C 2 P) rP) (fun v_77 h_77 q_77 => ?_)
        obtain ⟨rfl, rfl⟩ := q_77
        have ro := hO (C 2 P)
        refine r_iload (pc := 80) dX9_planned_80 rfl ?_
        refine rj_icmp_eq (pc := 82) (tgt := 91) dX9_planned_82 (by decide) (by first | exact b01_r | exact bz_r | omega | (constructor <;> omega) | apply_assumption | (apply atF_r; assumption) | fail "no range") (by first | exact b01_r | exact bz_r | omega | (constructor <;> omega) | apply_assumption | (apply atF_r; assumption) | fail "no range") (fun c_82 => ?_) (fun c_82 => ?_)
        · refine r_aload_n (pc := 91) dX9_planned_91 rfl (by first | rfl | exact isRefV_rf _) ?_
          refine r_getf (pc := 92) dX9_planned_92 fX9_41 (by first | assumption | exact isI.gx (by assumption) | exact isI.gc (by assumption) | exact isW.gx (by assumption) | exact isW.gF (by assumption) | exact isW.gT (by assumption) (by omega) | exact isW.gS (by assumption) (by omega) | exact isW.gK (by assumption) (by omega) | exact isW.g1 (by assumption) | exact isW.g2 (by assumption) | exact isW.g3 (by assumption) | exact isI.gx (isW.i0 (by assumption)) | exact isI.gc (isW.i0 (by assumption)) | exact isI.gx (isW.i1 (by assumption)) | exact isI.gc (isW.i1 (by assumption)) | exact isI.gx (isW.i2 (by assumption)) | exact isI.gc (isW.i2 (by assumption)) | exact isI.gx (isW.i3 (by assumption)) | exact isI.gc (isW.i3 (by assumption)) | exact isI.gx (isW.i4 (by assumption)) | exact isI.gc (isW.i4 (by assumption)) | exact isI.gx (isW.i5 (by assumption)) | exact isI.gc (isW.i5 (by assumption)) | exact isR.gx (by assumption) | exact isRd.gx (by assumption) | exact isSp.gx (by assumption) | exact isI.gx (isR.i (by assumption)) | exact isI.gx (isRd.i (by assumption)) | exact isI.gc (isRd.i (by assumption)) | exact isI.gx (isSp.i (by assumption)) | exact isW.gx (isR.w (by assumption)) | exact isW.gF (isR.w (by assumption)) | fail "no such object") (by rfl) ?_
          refine r_iload (pc := 95) dX9_planned_95 rfl ?_
          refine r_callV1 (pc := 97) dX9_planned_97 qX1_at kX9_147 vX1_at (by first | assumption | exact isI.gx (by assumption) | exact isI.gc (by assumption) | exact isW.gx (by assumption) | exact isW.gF (by assumption) | exact isW.gT (by assumption) (by omega) | exact isW.gS (by assumption) (by omega) | exact isW.gK (by assumption) (by omega) | exact isW.g1 (by assumption) | exact isW.g2 (by assumption) | exact isW.g3 (by assumption) | exact isI.gx (isW.i0 (by assumption)) | exact isI.gc (isW.i0 (by assumption)) | exact isI.gx (isW.i1 (by assumption)) | exact isI.gc (isW.i1 (by assumption)) | exact isI.gx (isW.i2 (by assumption)) | exact isI.gc (isW.i2 (by assumption)) | exact isI.gx (isW.i3 (by assumption)) | exact isI.gc (isW.i3 (by assumption)) | exact isI.gx (isW.i4 (by assumption)) | exact isI.gc (isW.i4 (by assumption)) | exact isI.gx (isW.i5 (by assumption)) | exact isI.gc (isW.i5 (by assumption)) | exact isR.gx (by assumption) | exact isRd.gx (by assumption) | exact isSp.gx (by assumption) | exact isI.gx (isR.i (by assumption)) | exact isI.gx (isRd.i (by assumption)) | exact isI.gc (isRd.i (by assumption)) | exact isI.gx (isSp.i (by assumption)) | exact isW.gx (isR.w (by assumption)) | exact isW.gF (isR.w (by assumption)) | fail "no such object") rfl rfl (Nat.le_of_ble_eq_true rfl) (cn_ent _ hW hc hZ hcapZ hC (t := P) (by omega)) (fun v_97 h_97 q_97 => ?_)
          obtain ⟨rfl, rfl⟩ := q_97
          refine rj_bipush (pc := 100) dX9_planned_100 (by decide +kernel) ?_
          refine rj_icmp_lt (pc := 102) (tgt := 133) dX9_planned_102 (by decide) (by first | exact b01_r | exact bz_r | omega | (constructor <;> omega) | apply_assumption | (apply atF_r; assumption) | fail "no range") (by first | exact b01_r | exact bz_r | omega | (constructor <;> omega) | apply_assumption | (apply atF_r; assumption) | fail "no range") (fun c_102 => ?_) (fun c_102 => ?_)
          · refine r_iload_n (pc := 133) dX9_planned_133 rfl ?_
            refine r_iload_n (pc := 134) dX9_planned_134 rfl ?_
            refine rj_icmp_ne (pc := 135) (tgt := 148) dX9_planned_135 (by decide) (by first | exact b01_r | exact bz_r | omega | (constructor <;> omega) | apply_assumption | (apply atF_r; assumption) | fail "no range") (by first | exact b01_r | exact bz_r | omega | (constructor <;> omega) | apply_assumption | (apply atF_r; assumption) | fail "no range") (fun c_135 => ?_) (fun c_135 => ?_)
            · refine rj_iinc (pc := 148) dX9_planned_148 (Nat.le_of_ble_eq_true rfl) rfl ?_
              dsimp only [lsSt, List.set, mLs, mEnt]
              refine rj_iinc (pc := 151) dX9_planned_151 (Nat.le_of_ble_eq_true rfl) rfl ?_
              dsimp only [lsSt, List.set, mLs, mEnt]
              refine rj_iinc (pc := 154) dX9_planned_154 (Nat.le_of_ble_eq_true rfl) rfl ?_
              dsimp only [lsSt, List.set, mLs, mEnt]
              refine r_goto (pc := 157) (tgt := 19) dX9_planned_157 (by decide) ?_
              have y := ih (k + 1) wi ((P : Int) - 1) (mn + 1) (by omega) (by omega) (by omega) (by omega)
              rw [e1] at y
              rw [pcL, if_neg (by omega), Int.toNat_natCast, if_neg (show ¬ ¬ ownF c (C 2 P) = wi from fun z => z c_82), if_neg (show ¬ 100 ≤ C 2 P by omega), if_neg (by omega)]
              first | exact y | (rw [show (P : Int) - 1 = (P : Int) + -1 by omega] at y; exact y) | (rw [hZ]; exact y) | (rw [← hZ] at y; exact y)
            · refine r_aload_n (pc := 138) dX9_planned_138 rfl (by first | rfl | exact isRefV_rf _) ?_
              refine r_getf (pc := 139) dX9_planned_139 fX9_41 (by first | assumption | exact isI.gx (by assumption) | exact isI.gc (by assumption) | exact isW.gx (by assumption) | exact isW.gF (by assumption) | exact isW.gT (by assumption) (by omega) | exact isW.gS (by assumption) (by omega) | exact isW.gK (by assumption) (by omega) | exact isW.g1 (by assumption) | exact isW.g2 (by assumption) | exact isW.g3 (by assumption) | exact isI.gx (isW.i0 (by assumption)) | exact isI.gc (isW.i0 (by assumption)) | exact isI.gx (isW.i1 (by assumption)) | exact isI.gc (isW.i1 (by assumption)) | exact isI.gx (isW.i2 (by assumption)) | exact isI.gc (isW.i2 (by assumption)) | exact isI.gx (isW.i3 (by assumption)) | exact isI.gc (isW.i3 (by assumption)) | exact isI.gx (isW.i4 (by assumption)) | exact isI.gc (isW.i4 (by assumption)) | exact isI.gx (isW.i5 (by assumption)) | exact isI.gc (isW.i5 (by assumption)) | exact isR.gx (by assumption) | exact isRd.gx (by assumption) | exact isSp.gx (by assumption) | exact isI.gx (isR.i (by assumption)) | exact isI.gx (isRd.i (by assumption)) | exact isI.gc (isRd.i (by assumption)) | exact isI.gx (isSp.i (by assumption)) | exact isW.gx (isR.w (by assumption)) | exact isW.gF (isR.w (by assumption)) | fail "no such object") (by rfl) ?_
              refine r_iload (pc := 142) dX9_planned_142 rfl ?_
              refine r_callV1 (pc := 144) dX9_planned_144 qX1_at kX9_147 vX1_at (by first | assumption | exact isI.gx (by assumption) | exact isI.gc (by assumption) | exact isW.gx (by assumption) | exact isW.gF (by assumption) | exact isW.gT (by assumption) (by omega) | exact isW.gS (by assumption) (by omega) | exact isW.gK (by assumption) (by omega) | exact isW.g1 (by assumption) | exact isW.g2 (by assumption) | exact isW.g3 (by assumption) | exact isI.gx (isW.i0 (by assumption)) | exact isI.gc (isW.i0 (by assumption)) | exact isI.gx (isW.i1 (by assumption)) | exact isI.gc (isW.i1 (by assumption)) | exact isI.gx (isW.i2 (by assumption)) | exact isI.gc (isW.i2 (by assumption)) | exact isI.gx (isW.i3 (by assumption)) | exact isI.gc (isW.i3 (by assumption)) | exact isI.gx (isW.i4 (by assumption)) | exact isI.gc (isW.i4 (by assumption)) | exact isI.gx (isW.i5 (by assumption)) | exact isI.gc (isW.i5 (by assumption)) | exact isR.gx (by assumption) | exact isRd.gx (by assumption) | exact isSp.gx (by assumption) | exact isI.gx (isR.i (by assumption)) | exact isI.gx (isRd.i (by assumption)) | exact isI.gc (isRd.i (by assumption)) | exact isI.gx (isSp.i (by assumption)) | exact isW.gx (isR.w (by assumption)) | exact isW.gF (isR.w (by assumption)) | fail "no such object") rfl rfl (Nat.le_of_ble_eq_true rfl) (cn_ent _ hW hc hZ hcapZ hC (t := P) (by omega)) (fun v_144 h_144 q_144 => ?_)
              obtain ⟨rfl, rfl⟩ := q_144
              refine r_ireturn (pc := 147) .int dX9_planned_147 rfl (by first | rfl | assumption) ?_
              first
              | exact ⟨by rw [pcL, if_pos (by omega), if_pos (by omega), if_pos (by omega)], rfl⟩
              | exact ⟨by rw [pcL, if_pos (by omega), if_pos (by omega), if_neg (by omega)], rfl⟩
              | exact ⟨by rw [pcL, if_neg (by omega), Int.toNat_natCast, if_neg (show ¬ ¬ ownF c (C 2 P) = wi from fun z => z c_82), if_neg (show ¬ 100 ≤ C 2 P by omega), if_pos (by omega)], rfl⟩
          · refine r_aload_n (pc := 105) dX9_planned_105 rfl (by first | rfl | exact isRefV_rf _) ?_
            refine r_getf (pc := 106) dX9_planned_106 fX9_41 (by first | assumption | exact isI.gx (by assumption) | exact isI.gc (by assumption) | exact isW.gx (by assumption) | exact isW.gF (by assumption) | exact isW.gT (by assumption) (by omega) | exact isW.gS (by assumption) (by omega) | exact isW.gK (by assumption) (by omega) | exact isW.g1 (by assumption) | exact isW.g2 (by assumption) | exact isW.g3 (by assumption) | exact isI.gx (isW.i0 (by assumption)) | exact isI.gc (isW.i0 (by assumption)) | exact isI.gx (isW.i1 (by assumption)) | exact isI.gc (isW.i1 (by assumption)) | exact isI.gx (isW.i2 (by assumption)) | exact isI.gc (isW.i2 (by assumption)) | exact isI.gx (isW.i3 (by assumption)) | exact isI.gc (isW.i3 (by assumption)) | exact isI.gx (isW.i4 (by assumption)) | exact isI.gc (isW.i4 (by assumption)) | exact isI.gx (isW.i5 (by assumption)) | exact isI.gc (isW.i5 (by assumption)) | exact isR.gx (by assumption) | exact isRd.gx (by assumption) | exact isSp.gx (by assumption) | exact isI.gx (isR.i (by assumption)) | exact isI.gx (isRd.i (by assumption)) | exact isI.gc (isRd.i (by assumption)) | exact isI.gx (isSp.i (by assumption)) | exact isW.gx (isR.w (by assumption)) | exact isW.gF (isR.w (by assumption)) | fail "no such object") (by rfl) ?_
            refine r_iload (pc := 109) dX9_planned_109 rfl ?_
            refine r_callV1 (pc := 111) dX9_planned_111 qX1_at kX9_147 vX1_at (by first | assumption | exact isI.gx (by assumption) | exact isI.gc (by assumption) | exact isW.gx (by assumption) | exact isW.gF (by assumption) | exact isW.gT (by assumption) (by omega) | exact isW.gS (by assumption) (by omega) | exact isW.gK (by assumption) (by omega) | exact isW.g1 (by assumption) | exact isW.g2 (by assumption) | exact isW.g3 (by assumption) | exact isI.gx (isW.i0 (by assumption)) | exact isI.gc (isW.i0 (by assumption)) | exact isI.gx (isW.i1 (by assumption)) | exact isI.gc (isW.i1 (by assumption)) | exact isI.gx (isW.i2 (by assumption)) | exact isI.gc (isW.i2 (by assumption)) | exact isI.gx (isW.i3 (by assumption)) | exact isI.gc (isW.i3 (by assumption)) | exact isI.gx (isW.i4 (by assumption)) | exact isI.gc (isW.i4 (by assumption)) | exact isI.gx (isW.i5 (by assumption)) | exact isI.gc (isW.i5 (by assumption)) | exact isR.gx (by assumption) | exact isRd.gx (by assumption) | exact isSp.gx (by assumption) | exact isI.gx (isR.i (by assumption)) | exact isI.gx (isRd.i (by assumption)) | exact isI.gc (isRd.i (by assumption)) | exact isI.gx (isSp.i (by assumption)) | exact isW.gx (isR.w (by assumption)) | exact isW.gF (isR.w (by assumption)) | fail "no such object") rfl rfl (Nat.le_of_ble_eq_true rfl) (cn_ent _ hW hc hZ hcapZ hC (t := P) (by omega)) (fun v_111 h_111 q_111 => ?_)
            obtain ⟨rfl, rfl⟩ := q_111
            refine rj_bipush (pc := 114) dX9_planned_114 (by decide +kernel) ?_
            refine rj_isub (pc := 116) dX9_planned_116 ?_
            refine r_istore (pc := 117) dX9_planned_117 (Nat.le_of_ble_eq_true rfl) ?_
            dsimp only [lsSt, List.set, mLs, mEnt]
            refine r_aload_n (pc := 119) dX9_planned_119 rfl (by first | rfl | exact isRefV_rf _) ?_
            refine r_getf (pc := 120) dX9_planned_120 fX9_41 (by first | assumption | exact isI.gx (by assumption) | exact isI.gc (by assumption) | exact isW.gx (by assumption) | exact isW.gF (by assumption) | exact isW.gT (by assumption) (by omega) | exact isW.gS (by assumption) (by omega) | exact isW.gK (by assumption) (by omega) | exact isW.g1 (by assumption) | exact isW.g2 (by assumption) | exact isW.g3 (by assumption) | exact isI.gx (isW.i0 (by assumption)) | exact isI.gc (isW.i0 (by assumption)) | exact isI.gx (isW.i1 (by assumption)) | exact isI.gc (isW.i1 (by assumption)) | exact isI.gx (isW.i2 (by assumption)) | exact isI.gc (isW.i2 (by assumption)) | exact isI.gx (isW.i3 (by assumption)) | exact isI.gc (isW.i3 (by assumption)) | exact isI.gx (isW.i4 (by assumption)) | exact isI.gc (isW.i4 (by assumption)) | exact isI.gx (isW.i5 (by assumption)) | exact isI.gc (isW.i5 (by assumption)) | exact isR.gx (by assumption) | exact isRd.gx (by assumption) | exact isSp.gx (by assumption) | exact isI.gx (isR.i (by assumption)) | exact isI.gx (isRd.i (by assumption)) | exact isI.gc (isRd.i (by assumption)) | exact isI.gx (isSp.i (by assumption)) | exact isW.gx (isR.w (by assumption)) | exact isW.gF (isR.w (by assumption)) | fail "no such object") (by rfl) ?_
            refine r_getf (pc := 123) dX9_planned_123 fX9_144 (by first | assumption | exact isI.gx (by assumption) | exact isI.gc (by assumption) | exact isW.gx (by assumption) | exact isW.gF (by assumption) | exact isW.gT (by assumption) (by omega) | exact isW.gS (by assumption) (by omega) | exact isW.gK (by assumption) (by omega) | exact isW.g1 (by assumption) | exact isW.g2 (by assumption) | exact isW.g3 (by assumption) | exact isI.gx (isW.i0 (by assumption)) | exact isI.gc (isW.i0 (by assumption)) | exact isI.gx (isW.i1 (by assumption)) | exact isI.gc (isW.i1 (by assumption)) | exact isI.gx (isW.i2 (by assumption)) | exact isI.gc (isW.i2 (by assumption)) | exact isI.gx (isW.i3 (by assumption)) | exact isI.gc (isW.i3 (by assumption)) | exact isI.gx (isW.i4 (by assumption)) | exact isI.gc (isW.i4 (by assumption)) | exact isI.gx (isW.i5 (by assumption)) | exact isI.gc (isW.i5 (by assumption)) | exact isR.gx (by assumption) | exact isRd.gx (by assumption) | exact isSp.gx (by assumption) | exact isI.gx (isR.i (by assumption)) | exact isI.gx (isRd.i (by assumption)) | exact isI.gc (isRd.i (by assumption)) | exact isI.gx (isSp.i (by assumption)) | exact isW.gx (isR.w (by assumption)) | exact isW.gF (isR.w (by assumption)) | fail "no such object") (by rfl) ?_
            refine rj_iconst (pc := 126) dX9_planned_126 ?_
            refine rj_isub (pc := 127) dX9_planned_127 ?_
            refine r_istore (pc := 128) dX9_planned_128 (Nat.le_of_ble_eq_true rfl) ?_
            dsimp only [lsSt, List.set, mLs, mEnt]
            refine r_goto (pc := 130) (tgt := 154) dX9_planned_130 (by decide) ?_
            refine rj_iinc (pc := 154) dX9_planned_154 (Nat.le_of_ble_eq_true rfl) rfl ?_
            dsimp only [lsSt, List.set, mLs, mEnt]
            refine r_goto (pc := 157) (tgt := 19) dX9_planned_157 (by decide) ?_
            have y := ih (k + 1) (C 2 P - 100) ((Z : Int) - 1) mn (by omega) (by omega) (by omega) (by omega)
            rw [e1] at y
            rw [pcL, if_neg (by omega), Int.toNat_natCast, if_neg (show ¬ ¬ ownF c (C 2 P) = wi from fun z => z c_82), if_pos (show 100 ≤ C 2 P by omega)]
            first | exact y | (rw [show (P : Int) - 1 = (P : Int) + -1 by omega] at y; exact y) | (rw [hZ]; exact y) | (rw [← hZ] at y; exact y)
        · refine rj_iinc (pc := 85) dX9_planned_85 (Nat.le_of_ble_eq_true rfl) rfl ?_
          dsimp only [lsSt, List.set, mLs, mEnt]
          refine r_goto (pc := 88) (tgt := 154) dX9_planned_88 (by decide) ?_
          refine rj_iinc (pc := 154) dX9_planned_154 (Nat.le_of_ble_eq_true rfl) rfl ?_
          dsimp only [lsSt, List.set, mLs, mEnt]
          refine r_goto (pc := 157) (tgt := 19) dX9_planned_157 (by decide) ?_
          have y := ih (k + 1) wi ((P : Int) - 1) mn (by omega) (by omega) (by omega) (by omega)
          rw [e1] at y
          rw [pcL, if_neg (by omega), Int.toNat_natCast, if_pos (show ¬ ownF c (C 2 P) = wi from c_82)]
          first | exact y | (rw [show (P : Int) - 1 = (P : Int) + -1 by omega] at y; exact y) | (rw [hZ]; exact y) | (rw [← hZ] at y; exact y)
      · refine r_iload (pc := 31) dX9_planned_31 rfl ?_
        refine r_iload_n (pc := 33) dX9_planned_33 rfl ?_
        refine rj_icmp_ne (pc := 34) (tgt := 40) dX9_planned_34 (by decide) (by first | exact b01_r | exact bz_r | omega | (constructor <;> omega) | apply_assumption | (apply atF_r; assumption) | fail "no range") (by first | exact b01_r | exact bz_r | omega | (constructor <;> omega) | apply_assumption | (apply atF_r; assumption) | fail "no range") (fun c_34 => ?_) (fun c_34 => ?_)
        · refine r_aload_n (pc := 40) dX9_planned_40 rfl (by first | rfl | exact isRefV_rf _) ?_
          refine rj_bipush (pc := 41) dX9_planned_41 (by decide +kernel) ?_
          refine r_iload (pc := 43) dX9_planned_43 rfl ?_
          refine rj_iadd (pc := 45) dX9_planned_45 ?_
          refine r_callV1 (pc := 46) dX9_planned_46 qX9_placeOfEntry kX9_161 vX9_placeOfEntry (by first | assumption | exact isI.gx (by assumption) | exact isI.gc (by assumption) | exact isW.gx (by assumption) | exact isW.gF (by assumption) | exact isW.gT (by assumption) (by omega) | exact isW.gS (by assumption) (by omega) | exact isW.gK (by assumption) (by omega) | exact isW.g1 (by assumption) | exact isW.g2 (by assumption) | exact isW.g3 (by assumption) | exact isI.gx (isW.i0 (by assumption)) | exact isI.gc (isW.i0 (by assumption)) | exact isI.gx (isW.i1 (by assumption)) | exact isI.gc (isW.i1 (by assumption)) | exact isI.gx (isW.i2 (by assumption)) | exact isI.gc (isW.i2 (by assumption)) | exact isI.gx (isW.i3 (by assumption)) | exact isI.gc (isW.i3 (by assumption)) | exact isI.gx (isW.i4 (by assumption)) | exact isI.gc (isW.i4 (by assumption)) | exact isI.gx (isW.i5 (by assumption)) | exact isI.gc (isW.i5 (by assumption)) | exact isR.gx (by assumption) | exact isRd.gx (by assumption) | exact isSp.gx (by assumption) | exact isI.gx (isR.i (by assumption)) | exact isI.gx (isRd.i (by assumption)) | exact isI.gc (isRd.i (by assumption)) | exact isI.gx (isSp.i (by assumption)) | exact isW.gx (isR.w (by assumption)) | exact isW.gF (isR.w (by assumption)) | fail "no such object") rfl rfl (Nat.le_of_ble_eq_true rfl) (cq_placeOfEntry _ hW hc hZ hcapZ hC (i := 100 + wi) ⟨by omega, by omega⟩) (fun v_46 h_46 q_46 => ?_)
          obtain ⟨rfl, rfl⟩ := q_46
          have rq := peL_r (f := C 2) (i := 100 + wi) Z 0
          refine rj_iconst (pc := 49) dX9_planned_49 ?_
          refine rj_isub (pc := 50) dX9_planned_50 ?_
          refine r_istore (pc := 51) dX9_planned_51 (Nat.le_of_ble_eq_true rfl) ?_
          dsimp only [lsSt, List.set, mLs, mEnt]
          refine r_aload_n (pc := 53) dX9_planned_53 rfl (by first | rfl | exact isRefV_rf _) ?_
          refine rj_bipush (pc := 54) dX9_planned_54 (by decide +kernel) ?_
          refine r_iload (pc := 56) dX9_planned_56 rfl ?_
          refine rj_iadd (pc := 58) dX9_planned_58 ?_
          refine r_callV1 (pc := 59) dX9_planned_59 qX9_ownerOf kX9_151 vX9_ownerOf (by first | assumption | exact isI.gx (by assumption) | exact isI.gc (by assumption) | exact isW.gx (by assumption) | exact isW.gF (by assumption) | exact isW.gT (by assumption) (by omega) | exact isW.gS (by assumption) (by omega) | exact isW.gK (by assumption) (by omega) | exact isW.g1 (by assumption) | exact isW.g2 (by assumption) | exact isW.g3 (by assumption) | exact isI.gx (isW.i0 (by assumption)) | exact isI.gc (isW.i0 (by assumption)) | exact isI.gx (isW.i1 (by assumption)) | exact isI.gc (isW.i1 (by assumption)) | exact isI.gx (isW.i2 (by assumption)) | exact isI.gc (isW.i2 (by assumption)) | exact isI.gx (isW.i3 (by assumption)) | exact isI.gc (isW.i3 (by assumption)) | exact isI.gx (isW.i4 (by assumption)) | exact isI.gc (isW.i4 (by assumption)) | exact isI.gx (isW.i5 (by assumption)) | exact isI.gc (isW.i5 (by assumption)) | exact isR.gx (by assumption) | exact isRd.gx (by assumption) | exact isSp.gx (by assumption) | exact isI.gx (isR.i (by assumption)) | exact isI.gx (isRd.i (by assumption)) | exact isI.gc (isRd.i (by assumption)) | exact isI.gx (isSp.i (by assumption)) | exact isW.gx (isR.w (by assumption)) | exact isW.gF (isR.w (by assumption)) | fail "no such object") rfl rfl (Nat.le_of_ble_eq_true rfl) (cw_ownerOf _ hW hc (i := 100 + wi) ⟨by omega, by omega⟩) (fun v_59 h_59 q_59 => ?_)
          obtain ⟨rfl, rfl⟩ := q_59
          have ro := hO (100 + wi)
          refine r_istore (pc := 62) dX9_planned_62 (Nat.le_of_ble_eq_true rfl) ?_
          dsimp only [lsSt, List.set, mLs, mEnt]
          refine r_goto (pc := 64) (tgt := 154) dX9_planned_64 (by decide) ?_
          refine rj_iinc (pc := 154) dX9_planned_154 (Nat.le_of_ble_eq_true rfl) rfl ?_
          dsimp only [lsSt, List.set, mLs, mEnt]
          refine r_goto (pc := 157) (tgt := 19) dX9_planned_157 (by decide) ?_
          have y := ih (k + 1) (ownF c (100 + wi)) (peL (C 2) (100 + wi) Z 0 - 1) mn (by omega) (by omega) (by omega) (by omega)
          rw [e1] at y
          rw [pcL, if_pos (by omega), if_neg (by omega)]
          first | exact y | (rw [show (P : Int) - 1 = (P : Int) + -1 by omega] at y; exact y) | (rw [hZ]; exact y) | (rw [← hZ] at y; exact y)
        · refine r_goto (pc := 37) (tgt := 160) dX9_planned_37 (by decide) ?_
          refine r_iload_n (pc := 160) dX9_planned_160 rfl ?_
          refine rj_iconst (pc := 161) dX9_planned_161 ?_
          refine rj_icmp_ne (pc := 162) (tgt := 169) dX9_planned_162 (by decide) (by first | exact b01_r | exact bz_r | omega | (constructor <;> omega) | apply_assumption | (apply atF_r; assumption) | fail "no range") (by first | exact b01_r | exact bz_r | omega | (constructor <;> omega) | apply_assumption | (apply atF_r; assumption) | fail "no range") (fun c_162 => ?_) (fun c_162 => ?_)
          · refine rj_iconst (pc := 169) dX9_planned_169 ?_
            refine r_ireturn (pc := 170) .int dX9_planned_170 rfl (by first | rfl | assumption) ?_
            first
            | exact ⟨by rw [pcL, if_pos (by omega), if_pos (by omega), if_pos (by omega)], rfl⟩
            | exact ⟨by rw [pcL, if_pos (by omega), if_pos (by omega), if_neg (by omega)], rfl⟩
            | exact ⟨by rw [pcL, if_neg (by omega), Int.toNat_natCast, if_neg (show ¬ ¬ ownF c (C 2 P) = wi from fun z => z c_82), if_neg (show ¬ 100 ≤ C 2 P by omega), if_pos (by omega)], rfl⟩
          · refine r_iload_n (pc := 165) dX9_planned_165 rfl ?_
            refine r_goto (pc := 166) (tgt := 170) dX9_planned_166 (by decide) ?_
            refine r_ireturn (pc := 170) .int dX9_planned_170 rfl (by first | rfl | assumption) ?_
            first
            | exact ⟨by rw [pcL, if_pos (by omega), if_pos (by omega), if_pos (by omega)], rfl⟩
            | exact ⟨by rw [pcL, if_pos (by omega), if_pos (by omega), if_neg (by omega)], rfl⟩
            | exact ⟨by rw [pcL, if_neg (by omega), Int.toNat_natCast, if_neg (show ¬ ¬ ownF c (C 2 P) = wi from fun z => z c_82), if_neg (show ¬ 100 ≤ C 2 P by omega), if_pos (by omega)], rfl⟩
end mg_9j
