/-! ===== more branches of a turn (by program) ===== -/
def GRk (k : Nat) (x : Nat) (h h1 : mH) : Prop := (h1.1 = h.1 ∧ ∀ b, b < x → hGet h1 b = hGet h b) ∧ h1.2.1 ≤ h.2.1 + 400 * k ∧ h1.2.2.1 ≤ h.2.2.1 + 6000 * k
section NA
variable {G : mG} {l : Launch} {x n0 : Nat} {h : mH} {f4 : Int} {m kpm pool : Nat → Int} {ft : Nat → Int} {b : Nat} {tn kk s : Int} {qq : Int32} {sg : Int64} {a11 a12 a13 a14 a15 : Option Value} {Q : Option Value → mH → Prop}
theorem GRk.tr {j k : Nat} {h1 h2 : mH} (a : GRk j x h h1) (b : GRk k x h1 h2) : GRk (j + k) x h h2 := by
  obtain ⟨⟨a1, a2⟩, a3, a4⟩ := a
  obtain ⟨⟨b1, b2⟩, b3, b4⟩ := b
  exact ⟨⟨b1.trans a1, fun q hq => (b2 q hq).trans (a2 q hq)⟩, by omega, by omega⟩
theorem GRk.one {h1 : mH} (s : h1.1 = h.1 ∧ ∀ b, b < x → hGet h1 b = hGet h b) (t1 : h1.2.1 ≤ h.2.1 + 400) (t2 : h1.2.2.1 ≤ h.2.2.1 + 6000) : GRk 1 x h h1 := ⟨s, by omega, by omega⟩
theorem GRk.to {k : Nat} {h1 : mH} (a : GRk k x h h1) (hk : k ≤ 6) : GRW x h h1 := ⟨a.1, by have := a.2.1; omega, by have := a.2.2; omega⟩
theorem trial5 {t : Int} : trialV m t 5 = m 2 := rfl
theorem wd0 {w : Nat → Int} : wouldV m w 0 = m 5 := rfl
theorem wd3 {w : Nat → Int} : wouldV m w 3 = m 2 - w 2 := rfl
theorem wd5 {w : Nat → Int} : wouldV m w 5 = cnt (heldB m) (m 1).toNat := rfl
set_option maxHeartbeats 4000000 in
set_option maxRecDepth 100000 in
theorem law_tick (hG : G.2.map Prod.snd = mTy) (hn0 : n0 ≤ 500) (hI : RO x (x + 196) n0 f4 m kpm pool 0 ft h) (hj : JI m) (hs : 0 ≤ s ∧ s ≤ m 0 - 1) (hsg : sgt m = sg) (K : TLK G l x n0 b h tn kk s (m 1) qq sg Q) : RUN G l 2048 mLaw 621 [some (.ref b), some (.ref x), some (.int (J 1)), some (.int (J tn)), some (.int qq), some (.int (J kk)), some (.int (J s)), some (.int (J (m 1))), some (.long sg), none, some (.int (J 0)), a11, a12, a13, a14, a15] [] h Q := by
  obtain ⟨fs, ho⟩ := hI.gx
  obtain ⟨m0, m1, m2, m3, hh, hnc, hns, hsc⟩ := hI.b2
  refine r_aload_n (pc := 621) dL_law_621 rfl (by first | rfl | exact isRefV_rf _) ?_
  refine rj_iconst (pc := 622) dL_law_622 ?_
  obtain ⟨B0_, T0_, hA_, -, -⟩ := hI.rows
  have nr := nextV_r hA_.1.1.1
  refine r_callV1 (pc := 623) dL_law_623 qX10_ready kL_142 vX10_ready ho rfl rfl (Nat.le_of_ble_eq_true rfl) ((oa_ready hI (a := 0) (by constructor <;> omega)).deeper (Nat.le_of_ble_eq_true rfl)) (fun v_623 h_623 q_623 => ?_)
  obtain ⟨rfl, e_h⟩ := q_623; replace e_h := e_h.symm; subst e_h
  rw [ready_next rfl]
  refine r_istore (pc := 626) dL_law_626 (Nat.le_of_ble_eq_true rfl) ?_
  dsimp only [lsSt, List.set, mLs, mEnt]
  refine r_iload (pc := 628) dL_law_628 rfl ?_
  refine rj_if_ge (pc := 630) (tgt := 642) dL_law_630 (by decide) (by first | exact b01_r | exact bz_r | omega | (constructor <;> omega) | apply_assumption | (apply atF_r; assumption) | fail "no range") (fun c_630 => ?_) (fun c_630 => ?_)
  · refine r_aload_n (pc := 642) dL_law_642 rfl (by first | rfl | exact isRefV_rf _) ?_
    refine r_iload (pc := 643) dL_law_643 rfl ?_
    refine rj_iconst (pc := 645) dL_law_645 ?_
    refine rj_iconst (pc := 646) dL_law_646 ?_
    refine r_callV3 (pc := 647) dL_law_647 qX10_trial kL_145 vX10_trial ho rfl rfl (Nat.le_of_ble_eq_true rfl) ((oc_trial hG (by omega) hI (a := nextV m) (by constructor <;> omega) (i := 1) (by constructor <;> omega) (u := 5) (by constructor <;> omega)).deeper (Nat.le_of_ble_eq_true rfl)) (fun v_647 h_647 q_647 => ?_)
    obtain ⟨z_647, g_647, m_647, kp_647, po_647, zt_647, ft_647, rfl, R_647, I_647, F_647, s_647, t_647, u_647⟩ := q_647
    obtain ⟨⟨c1, c2, c3, c4, c5, c6⟩, R2⟩ := R_647
    replace c1 := c1.symm; subst c1; replace c2 := c2.symm; subst c2; replace c3 := c3.symm; subst c3; replace c4 := c4.symm; subst c4; replace c5 := c5.symm; subst c5; replace c6 := c6.symm; subst c6
    obtain ⟨kk_, m2_, tk_, ze_⟩ := R2 ⟨⟨by omega, by omega⟩, ⟨by decide, by decide⟩, by decide, by decide⟩
    obtain ⟨fs_647, ho⟩ := I_647.gx
    refine r_istore (pc := 650) dL_law_650 (Nat.le_of_ble_eq_true rfl) ?_
    dsimp only [lsSt, List.set, mLs, mEnt]
    refine r_iload_n (pc := 652) dL_law_652 rfl ?_
    refine r_aload_n (pc := 653) dL_law_653 rfl (by first | rfl | exact isRefV_rf _) ?_
    refine r_callS1 (pc := 654) dL_law_654 qL_sight kL_94 sL_sight (Nat.le_of_ble_eq_true rfl) ((jl_sight I_647).deeper (Nat.le_of_ble_eq_true rfl)) (fun v_654 h_654 q_654 => ?_)
    obtain ⟨rfl, e_h⟩ := q_654; replace e_h := e_h.symm; subst e_h
    refine r_lload (pc := 657) dL_law_657 rfl ?_
    refine r_lcmp (pc := 659) dL_law_659 ?_
    rw [hsg, lcmp_self]
    refine rj_if_ne (pc := 660) (tgt := 667) dL_law_660 (by decide) (by first | exact b01_r | exact bz_r | omega | (constructor <;> omega) | apply_assumption | (apply atF_r; assumption) | fail "no range") (fun c_660 => ?_) (fun c_660 => ?_)
    · try simp only [b01_0, bz_0, Classical.not_not] at c_660
      exfalso; first | omega | contradiction | (simp at *; done)
    · try simp only [b01_0, bz_0, Classical.not_not] at c_660
      refine rj_iconst (pc := 663) dL_law_663 ?_
      refine r_goto (pc := 664) (tgt := 668) dL_law_664 (by decide) ?_
      refine rj_and1 (pc := 668) dL_law_668 ?_
      refine r_istore_n (pc := 669) dL_law_669 (Nat.le_of_ble_eq_true rfl) ?_
      dsimp only [lsSt, List.set, mLs, mEnt]
      refine r_aload_n (pc := 670) dL_law_670 rfl (by first | rfl | exact isRefV_rf _) ?_
      refine r_callV0 (pc := 671) dL_law_671 qX10_tick kL_149 vX10_tick ho rfl rfl (Nat.le_of_ble_eq_true rfl) ((oc_tick hG (by omega) I_647).deeper (Nat.le_of_ble_eq_true rfl)) (fun v_671 h_671 q_671 => ?_)
      obtain ⟨z_671, g_671, m_671, kp_671, po_671, zt_671, ft_671, rfl, R_671, I_671, F_671, s_671, t_671, u_671⟩ := q_671
      obtain ⟨tr_, rfl, d1, d2, d3, d4, d5⟩ := R_671
      replace d1 := d1.symm; subst d1; replace d2 := d2.symm; subst d2; replace d3 := d3.symm; subst d3; replace d4 := d4.symm; subst d4; replace d5 := d5.symm; subst d5
      obtain ⟨fs_671, ho⟩ := I_671.gx
      have kb := I_671.b2.2.2.1
      have hz : z_647 = m_671 2 := by
        obtain ⟨mm_, tk1, tk2⟩ := (show ticksR pool 1 m kk_ m2_ from tk_)
        rcases tk2 with ⟨tn_, -⟩ | ⟨-, k1_, -, tk3⟩
        · omega
        · obtain ⟨-, e3⟩ := (show k1_ = 0 ∧ m2_ = mm_ from tk3)
          rw [ze_, trial5, e3, tick_det tk1 tr_]
      refine r_iload (pc := 674) dL_law_674 rfl ?_
      refine rj_icmp_ne (pc := 676) (tgt := 683) dL_law_676 (by decide) (by first | exact b01_r | exact bz_r | omega | (constructor <;> omega) | apply_assumption | (apply atF_r; assumption) | fail "no range") (by first | exact b01_r | exact bz_r | omega | (constructor <;> omega) | apply_assumption | (apply atF_r; assumption) | fail "no range") (fun c_676 => ?_) (fun c_676 => ?_)
      · exfalso; first | omega | contradiction | (simp at *; done)
      · refine rj_iconst (pc := 679) dL_law_679 ?_
        refine r_goto (pc := 680) (tgt := 685) dL_law_680 (by decide) ?_
        refine r_istore (pc := 685) dL_law_685 (Nat.le_of_ble_eq_true rfl) ?_
        dsimp only [lsSt, List.set, mLs, mEnt]
        refine r_iload_n (pc := 687) dL_law_687 rfl ?_
        refine r_iload (pc := 688) dL_law_688 rfl ?_
        refine rj_if_ne (pc := 690) (tgt := 708) dL_law_690 (by decide) (by first | exact b01_r | exact bz_r | omega | (constructor <;> omega) | apply_assumption | (apply atF_r; assumption) | fail "no range") (fun c_690 => ?_) (fun c_690 => ?_)
        · try simp only [b01_0, bz_0, Classical.not_not] at c_690
          exfalso; first | omega | contradiction | (simp at *; done)
        · try simp only [b01_0, bz_0, Classical.not_not] at c_690
          refine r_aload_n (pc := 693) dL_law_693 rfl (by first | rfl | exact isRefV_rf _) ?_
          refine rj_bipush (pc := 694) dL_law_694 (by decide +kernel) ?_
          refine r_callV1 (pc := 696) dL_law_696 qX10_told kL_43 vX10_told ho rfl rfl (Nat.le_of_ble_eq_true rfl) ((oa_tld I_671 (k := 7) (by omega)).deeper (Nat.le_of_ble_eq_true rfl)) (fun v_696 h_696 q_696 => ?_)
          obtain ⟨rfl, e_h⟩ := q_696; replace e_h := e_h.symm; subst e_h
          rw [show toldV m_671 0 0 (m_671 1).toNat (m_671 0).toNat (m_671 3).toNat 7 = m_671 2 from rfl]
          refine r_iload (pc := 699) dL_law_699 rfl ?_
          refine rj_icmp_ne (pc := 701) (tgt := 708) dL_law_701 (by decide) (by first | exact b01_r | exact bz_r | omega | (constructor <;> omega) | apply_assumption | (apply atF_r; assumption) | fail "no range") (by first | exact b01_r | exact bz_r | omega | (constructor <;> omega) | apply_assumption | (apply atF_r; assumption) | fail "no range") (fun c_701 => ?_) (fun c_701 => ?_)
          · exfalso; first | omega | contradiction | (simp at *; done)
          · refine rj_iconst (pc := 704) dL_law_704 ?_
            refine r_goto (pc := 705) (tgt := 709) dL_law_705 (by decide) ?_
            refine rj_and1 (pc := 709) dL_law_709 ?_
            refine r_istore_n (pc := 710) dL_law_710 (Nat.le_of_ble_eq_true rfl) ?_
            dsimp only [lsSt, List.set, mLs, mEnt]
            refine r_goto (pc := 711) (tgt := 1216) dL_law_711 (by decide) ?_
            exact K _ _ _ _ _ _ _ 0 _ _ _ _ _ I_671 (tick_J hj hnc tr_).2.2.2 (by omega) (((GRk.one s_647 t_647 u_647).tr (GRk.one s_671 t_671 u_671)).to (by decide)) (by constructor <;> omega) (Or.inl (Int.le_refl _))
  · refine r_aload_n (pc := 633) dL_law_633 rfl (by first | rfl | exact isRefV_rf _) ?_
    refine rj_bipush (pc := 634) dL_law_634 (by decide +kernel) ?_
    refine r_callV1 (pc := 636) dL_law_636 qX10_told kL_43 vX10_told ho rfl rfl (Nat.le_of_ble_eq_true rfl) ((oa_tld hI (k := 7) (by omega)).deeper (Nat.le_of_ble_eq_true rfl)) (fun v_636 h_636 q_636 => ?_)
    obtain ⟨rfl, e_h⟩ := q_636; replace e_h := e_h.symm; subst e_h
    rw [show toldV m 0 0 (m 1).toNat (m 0).toNat (m 3).toNat 7 = m 2 from rfl]
    refine r_goto (pc := 639) (tgt := 650) dL_law_639 (by decide) ?_
    refine r_istore (pc := 650) dL_law_650 (Nat.le_of_ble_eq_true rfl) ?_
    dsimp only [lsSt, List.set, mLs, mEnt]
    refine r_iload_n (pc := 652) dL_law_652 rfl ?_
    refine r_aload_n (pc := 653) dL_law_653 rfl (by first | rfl | exact isRefV_rf _) ?_
    refine r_callS1 (pc := 654) dL_law_654 qL_sight kL_94 sL_sight (Nat.le_of_ble_eq_true rfl) ((jl_sight hI).deeper (Nat.le_of_ble_eq_true rfl)) (fun v_654 h_654 q_654 => ?_)
    obtain ⟨rfl, e_h⟩ := q_654; replace e_h := e_h.symm; subst e_h
    refine r_lload (pc := 657) dL_law_657 rfl ?_
    refine r_lcmp (pc := 659) dL_law_659 ?_
    rw [hsg, lcmp_self]
    refine rj_if_ne (pc := 660) (tgt := 667) dL_law_660 (by decide) (by first | exact b01_r | exact bz_r | omega | (constructor <;> omega) | apply_assumption | (apply atF_r; assumption) | fail "no range") (fun c_660 => ?_) (fun c_660 => ?_)
    · try simp only [b01_0, bz_0, Classical.not_not] at c_660
      exfalso; first | omega | contradiction | (simp at *; done)
    · try simp only [b01_0, bz_0, Classical.not_not] at c_660
      refine rj_iconst (pc := 663) dL_law_663 ?_
      refine r_goto (pc := 664) (tgt := 668) dL_law_664 (by decide) ?_
      refine rj_and1 (pc := 668) dL_law_668 ?_
      refine r_istore_n (pc := 669) dL_law_669 (Nat.le_of_ble_eq_true rfl) ?_
      dsimp only [lsSt, List.set, mLs, mEnt]
      refine r_aload_n (pc := 670) dL_law_670 rfl (by first | rfl | exact isRefV_rf _) ?_
      refine r_callV0 (pc := 671) dL_law_671 qX10_tick kL_149 vX10_tick ho rfl rfl (Nat.le_of_ble_eq_true rfl) ((oc_tick hG (by omega) hI).deeper (Nat.le_of_ble_eq_true rfl)) (fun v_671 h_671 q_671 => ?_)
      obtain ⟨z_671, g_671, m_671, kp_671, po_671, zt_671, ft_671, rfl, R_671, I_671, F_671, s_671, t_671, u_671⟩ := q_671
      obtain ⟨tr_, rfl, d1, d2, d3, d4, d5⟩ := R_671
      replace d1 := d1.symm; subst d1; replace d2 := d2.symm; subst d2; replace d3 := d3.symm; subst d3; replace d4 := d4.symm; subst d4; replace d5 := d5.symm; subst d5
      obtain ⟨fs_671, ho⟩ := I_671.gx
      have kb := I_671.b2.2.2.1
      have hz : m_671 2 = m 2 := by
        rcases tr_.2.2 with ⟨-, e3⟩ | ⟨tn_, -⟩
        · rw [e3]
        · omega
      refine r_iload (pc := 674) dL_law_674 rfl ?_
      refine rj_icmp_ne (pc := 676) (tgt := 683) dL_law_676 (by decide) (by first | exact b01_r | exact bz_r | omega | (constructor <;> omega) | apply_assumption | (apply atF_r; assumption) | fail "no range") (by first | exact b01_r | exact bz_r | omega | (constructor <;> omega) | apply_assumption | (apply atF_r; assumption) | fail "no range") (fun c_676 => ?_) (fun c_676 => ?_)
      · exfalso; first | omega | contradiction | (simp at *; done)
      · refine rj_iconst (pc := 679) dL_law_679 ?_
        refine r_goto (pc := 680) (tgt := 685) dL_law_680 (by decide) ?_
        refine r_istore (pc := 685) dL_law_685 (Nat.le_of_ble_eq_true rfl) ?_
        dsimp only [lsSt, List.set, mLs, mEnt]
        refine r_iload_n (pc := 687) dL_law_687 rfl ?_
        refine r_iload (pc := 688) dL_law_688 rfl ?_
        refine rj_if_ne (pc := 690) (tgt := 708) dL_law_690 (by decide) (by first | exact b01_r | exact bz_r | omega | (constructor <;> omega) | apply_assumption | (apply atF_r; assumption) | fail "no range") (fun c_690 => ?_) (fun c_690 => ?_)
        · try simp only [b01_0, bz_0, Classical.not_not] at c_690
          exfalso; first | omega | contradiction | (simp at *; done)
        · try simp only [b01_0, bz_0, Classical.not_not] at c_690
          refine r_aload_n (pc := 693) dL_law_693 rfl (by first | rfl | exact isRefV_rf _) ?_
          refine rj_bipush (pc := 694) dL_law_694 (by decide +kernel) ?_
          refine r_callV1 (pc := 696) dL_law_696 qX10_told kL_43 vX10_told ho rfl rfl (Nat.le_of_ble_eq_true rfl) ((oa_tld I_671 (k := 7) (by omega)).deeper (Nat.le_of_ble_eq_true rfl)) (fun v_696 h_696 q_696 => ?_)
          obtain ⟨rfl, e_h⟩ := q_696; replace e_h := e_h.symm; subst e_h
          rw [show toldV m_671 0 0 (m_671 1).toNat (m_671 0).toNat (m_671 3).toNat 7 = m_671 2 from rfl]
          refine r_iload (pc := 699) dL_law_699 rfl ?_
          refine rj_icmp_ne (pc := 701) (tgt := 708) dL_law_701 (by decide) (by first | exact b01_r | exact bz_r | omega | (constructor <;> omega) | apply_assumption | (apply atF_r; assumption) | fail "no range") (by first | exact b01_r | exact bz_r | omega | (constructor <;> omega) | apply_assumption | (apply atF_r; assumption) | fail "no range") (fun c_701 => ?_) (fun c_701 => ?_)
          · exfalso; first | omega | contradiction | (simp at *; done)
          · refine rj_iconst (pc := 704) dL_law_704 ?_
            refine r_goto (pc := 705) (tgt := 709) dL_law_705 (by decide) ?_
            refine rj_and1 (pc := 709) dL_law_709 ?_
            refine r_istore_n (pc := 710) dL_law_710 (Nat.le_of_ble_eq_true rfl) ?_
            dsimp only [lsSt, List.set, mLs, mEnt]
            refine r_goto (pc := 711) (tgt := 1216) dL_law_711 (by decide) ?_
            exact K _ _ _ _ _ _ _ 0 _ _ _ _ _ I_671 (tick_J hj hnc tr_).2.2.2 (by omega) ((GRk.one s_671 t_671 u_671).to (by decide)) (by constructor <;> omega) (Or.inl (Int.le_refl _))
set_option maxHeartbeats 4000000 in
set_option maxRecDepth 100000 in
theorem law_shut (hG : G.2.map Prod.snd = mTy) (hn0 : n0 ≤ 500) (hI : RO x (x + 196) n0 f4 m kpm pool 0 ft h) (hj : JI m) (hs : 0 ≤ s ∧ s ≤ m 0 - 1) (hsg : sgt m = sg) (K : TLK G l x n0 b h tn kk s (m 1) qq sg Q) : RUN G l 2048 mLaw 448 [some (.ref b), some (.ref x), some (.int (J 1)), some (.int (J tn)), some (.int qq), some (.int (J kk)), some (.int (J s)), some (.int (J (m 1))), some (.long sg), none, some (.int (J 0)), a11, a12, a13, a14, a15] [] h Q := by
  obtain ⟨fs, ho⟩ := hI.gx
  obtain ⟨m0, m1, m2, m3, hh, hnc, hns, hsc⟩ := hI.b2
  obtain ⟨sn, rfl⟩ : ∃ sn : Nat, s = sn := ⟨s.toNat, by omega⟩
  refine r_aload_n (pc := 448) dL_law_448 rfl (by first | rfl | exact isRefV_rf _) ?_
  refine r_iload (pc := 449) dL_law_449 rfl ?_
  refine rj_iconst (pc := 451) dL_law_451 ?_
  refine r_callV2 (pc := 452) dL_law_452 qX10_would kL_130 vX10_would ho rfl rfl (Nat.le_of_ble_eq_true rfl) ((oc_would hG (by omega) hI (a := (sn : Int)) (by constructor <;> omega) (i := 0) (by constructor <;> omega)).deeper (Nat.le_of_ble_eq_true rfl)) (fun v_452 h_452 q_452 => ?_)
  obtain ⟨z_452, g_452, m_452, kp_452, po_452, zt_452, ft_452, rfl, R_452, I_452, F_452, s_452, t_452, u_452⟩ := q_452
  obtain ⟨⟨c1, c2, c3, c4, c5, c6⟩, W_452⟩ := R_452
  replace c1 := c1.symm; subst c1; replace c2 := c2.symm; subst c2; replace c3 := c3.symm; subst c3; replace c4 := c4.symm; subst c4; replace c5 := c5.symm; subst c5; replace c6 := c6.symm; subst c6
  replace W_452 := W_452 ⟨by decide, by decide⟩
  obtain ⟨fs_452, ho⟩ := I_452.gx
  refine r_istore (pc := 455) dL_law_455 (Nat.le_of_ble_eq_true rfl) ?_
  dsimp only [lsSt, List.set, mLs, mEnt]
  refine r_aload_n (pc := 457) dL_law_457 rfl (by first | rfl | exact isRefV_rf _) ?_
  refine r_iload (pc := 458) dL_law_458 rfl ?_
  refine rj_iconst (pc := 460) dL_law_460 ?_
  refine r_callV2 (pc := 461) dL_law_461 qX10_would kL_130 vX10_would ho rfl rfl (Nat.le_of_ble_eq_true rfl) ((oc_would hG (by omega) I_452 (a := (sn : Int)) (by constructor <;> omega) (i := 5) (by constructor <;> omega)).deeper (Nat.le_of_ble_eq_true rfl)) (fun v_461 h_461 q_461 => ?_)
  obtain ⟨z_461, g_461, m_461, kp_461, po_461, zt_461, ft_461, rfl, R_461, I_461, F_461, s_461, t_461, u_461⟩ := q_461
  obtain ⟨⟨c1, c2, c3, c4, c5, c6⟩, W_461⟩ := R_461
  replace c1 := c1.symm; subst c1; replace c2 := c2.symm; subst c2; replace c3 := c3.symm; subst c3; replace c4 := c4.symm; subst c4; replace c5 := c5.symm; subst c5; replace c6 := c6.symm; subst c6
  replace W_461 := W_461 ⟨by decide, by decide⟩
  obtain ⟨fs_461, ho⟩ := I_461.gx
  refine r_istore (pc := 464) dL_law_464 (Nat.le_of_ble_eq_true rfl) ?_
  dsimp only [lsSt, List.set, mLs, mEnt]
  refine r_aload_n (pc := 466) dL_law_466 rfl (by first | rfl | exact isRefV_rf _) ?_
  refine r_iload (pc := 467) dL_law_467 rfl ?_
  refine rj_iconst (pc := 469) dL_law_469 ?_
  refine r_callV2 (pc := 470) dL_law_470 qX10_would kL_130 vX10_would ho rfl rfl (Nat.le_of_ble_eq_true rfl) ((oc_would hG (by omega) I_461 (a := (sn : Int)) (by constructor <;> omega) (i := 3) (by constructor <;> omega)).deeper (Nat.le_of_ble_eq_true rfl)) (fun v_470 h_470 q_470 => ?_)
  obtain ⟨z_470, g_470, m_470, kp_470, po_470, zt_470, ft_470, rfl, R_470, I_470, F_470, s_470, t_470, u_470⟩ := q_470
  obtain ⟨⟨c1, c2, c3, c4, c5, c6⟩, W_470⟩ := R_470
  replace c1 := c1.symm; subst c1; replace c2 := c2.symm; subst c2; replace c3 := c3.symm; subst c3; replace c4 := c4.symm; subst c4; replace c5 := c5.symm; subst c5; replace c6 := c6.symm; subst c6
  replace W_470 := W_470 ⟨by decide, by decide⟩
  obtain ⟨fs_470, ho⟩ := I_470.gx
  refine r_istore (pc := 473) dL_law_473 (Nat.le_of_ble_eq_true rfl) ?_
  dsimp only [lsSt, List.set, mLs, mEnt]
  refine r_aload_n (pc := 475) dL_law_475 rfl (by first | rfl | exact isRefV_rf _) ?_
  refine rj_bipush (pc := 476) dL_law_476 (by decide +kernel) ?_
  refine r_callV1 (pc := 478) dL_law_478 qX10_told kL_43 vX10_told ho rfl rfl (Nat.le_of_ble_eq_true rfl) ((oa_tld I_470 (k := 7) (by omega)).deeper (Nat.le_of_ble_eq_true rfl)) (fun v_478 h_478 q_478 => ?_)
  obtain ⟨rfl, e_h⟩ := q_478; replace e_h := e_h.symm; subst e_h
  rw [show toldV m 0 0 (m 1).toNat (m 0).toNat (m 3).toNat 7 = m 2 from rfl]
  refine r_istore (pc := 481) dL_law_481 (Nat.le_of_ble_eq_true rfl) ?_
  dsimp only [lsSt, List.set, mLs, mEnt]
  refine r_iload_n (pc := 483) dL_law_483 rfl ?_
  refine r_aload_n (pc := 484) dL_law_484 rfl (by first | rfl | exact isRefV_rf _) ?_
  refine r_callS1 (pc := 485) dL_law_485 qL_sight kL_94 sL_sight (Nat.le_of_ble_eq_true rfl) ((jl_sight I_470).deeper (Nat.le_of_ble_eq_true rfl)) (fun v_485 h_485 q_485 => ?_)
  obtain ⟨rfl, e_h⟩ := q_485; replace e_h := e_h.symm; subst e_h
  refine r_lload (pc := 488) dL_law_488 rfl ?_
  refine r_lcmp (pc := 490) dL_law_490 ?_
  rw [hsg, lcmp_self]
  refine rj_if_ne (pc := 491) (tgt := 498) dL_law_491 (by decide) (by first | exact b01_r | exact bz_r | omega | (constructor <;> omega) | apply_assumption | (apply atF_r; assumption) | fail "no range") (fun c_491 => ?_) (fun c_491 => ?_)
  · try simp only [b01_0, bz_0, Classical.not_not] at c_491
    exfalso; first | omega | contradiction | (simp at *; done)
  · try simp only [b01_0, bz_0, Classical.not_not] at c_491
    refine rj_iconst (pc := 494) dL_law_494 ?_
    refine r_goto (pc := 495) (tgt := 499) dL_law_495 (by decide) ?_
    refine rj_and1 (pc := 499) dL_law_499 ?_
    refine r_istore_n (pc := 500) dL_law_500 (Nat.le_of_ble_eq_true rfl) ?_
    dsimp only [lsSt, List.set, mLs, mEnt]
    refine r_aload_n (pc := 501) dL_law_501 rfl (by first | rfl | exact isRefV_rf _) ?_
    refine r_iload (pc := 502) dL_law_502 rfl ?_
    refine r_callV1 (pc := 504) dL_law_504 qX10_shut kL_133 vX10_shut ho rfl rfl (Nat.le_of_ble_eq_true rfl) ((oc_shut hG (by omega) I_470 (a := (sn : Int)) (by constructor <;> omega)).deeper (Nat.le_of_ble_eq_true rfl)) (fun v_504 h_504 q_504 => ?_)
    obtain ⟨z_504, g_504, m_504, kp_504, po_504, zt_504, ft_504, rfl, R_504, I_504, F_504, s_504, t_504, u_504⟩ := q_504
    rcases R_504 with ⟨no, ze, c1, c2, c3, c4, c5, c6⟩ | ⟨op, sr_, rfl, d1, d2, d3, d4, d5⟩
    · replace c1 := c1.symm; subst c1; replace c2 := c2.symm; subst c2; replace c3 := c3.symm; subst c3; replace c4 := c4.symm; subst c4; replace c5 := c5.symm; subst c5; replace c6 := c6.symm; subst c6
      have w0 : z_452 = z_504 := by
        rcases W_452 with ⟨-, w0⟩ | ⟨wo, -⟩
        · rw [w0, ze]
        · exact absurd wo no
      have zr : z_504 = -3 := by rw [ze, if_pos ⟨by omega, by omega⟩]
      refine r_istore (pc := 507) dL_law_507 (Nat.le_of_ble_eq_true rfl) ?_
      dsimp only [lsSt, List.set, mLs, mEnt]
      refine r_iload_n (pc := 509) dL_law_509 rfl ?_
      refine r_iload (pc := 510) dL_law_510 rfl ?_
      refine r_iload (pc := 512) dL_law_512 rfl ?_
      refine rj_icmp_ne (pc := 514) (tgt := 570) dL_law_514 (by decide) (by first | exact b01_r | exact bz_r | omega | (constructor <;> omega) | apply_assumption | (apply atF_r; assumption) | fail "no range") (by first | exact b01_r | exact bz_r | omega | (constructor <;> omega) | apply_assumption | (apply atF_r; assumption) | fail "no range") (fun c_514 => ?_) (fun c_514 => ?_)
      · exfalso; first | omega | contradiction | (simp at *; done)
      · refine r_iload (pc := 517) dL_law_517 rfl ?_
        refine rj_if_lt (pc := 519) (tgt := 566) dL_law_519 (by decide) (by first | exact b01_r | exact bz_r | omega | (constructor <;> omega) | apply_assumption | (apply atF_r; assumption) | fail "no range") (fun c_519 => ?_) (fun c_519 => ?_)
        · refine rj_iconst (pc := 566) dL_law_566 ?_
          refine r_goto (pc := 567) (tgt := 571) dL_law_567 (by decide) ?_
          refine rj_and1 (pc := 571) dL_law_571 ?_
          refine r_istore_n (pc := 572) dL_law_572 (Nat.le_of_ble_eq_true rfl) ?_
          dsimp only [lsSt, List.set, mLs, mEnt]
          refine r_goto (pc := 573) (tgt := 1216) dL_law_573 (by decide) ?_
          exact K _ _ _ _ _ _ _ z_504 _ _ _ _ _ I_504 hj (by omega) ((((GRk.one s_452 t_452 u_452).tr (GRk.one s_461 t_461 u_461)).tr ((GRk.one s_470 t_470 u_470).tr (GRk.one s_504 t_504 u_504))).to (by decide)) (by constructor <;> omega) (Or.inr (Or.inr hsg))
        · exfalso; first | omega | contradiction | (simp at *; done)
    · replace d1 := d1.symm; subst d1; replace d2 := d2.symm; subst d2; replace d3 := d3.symm; subst d3; replace d4 := d4.symm; subst d4; replace d5 := d5.symm; subst d5
      obtain ⟨js, ns⟩ := J_shut hj hnc sr_
      obtain ⟨fs_504, ho⟩ := I_504.gx
      obtain ⟨k0, k1, k2, k3, kh, knc, kns, ksc⟩ := I_504.b2
      have b5 := I_504.b5
      obtain ⟨kS, kO⟩ := shuts_J 61 _ _ _ hj.u5 hnc.u5 sr_
      have km : m_504 0 = m 0 := by have z := kS.1.1; rw [updI_n (by omega)] at z; exact z
      obtain ⟨sh1, sh2, -⟩ := kO ⟨op.1, by rw [updI_n (by omega)]; exact op.2.1, by rw [updI_n (by omega)]; exact op.2.2⟩
      have hz0 := held_none ksc kns js (s := sn) sh1 sh2
      have w0 : z_452 = m_504 5 := by
        rcases W_452 with ⟨wo, -⟩ | ⟨-, m2_, w1, w2⟩
        · exact absurd op wo
        · rw [w2, wd0, shuts_det 61 61 _ _ _ _ w1 sr_]
      have w5 : z_461 = cnt (heldB m_504) (m_504 1).toNat := by
        rcases W_461 with ⟨wo, -⟩ | ⟨-, m2_, w1, w2⟩
        · exact absurd op wo
        · rw [w2, wd5, shuts_det 61 61 _ _ _ _ w1 sr_]
      have w3 : z_470 = m_504 2 - m 2 := by
        rcases W_470 with ⟨wo, -⟩ | ⟨-, m2_, w1, w2⟩
        · exact absurd op wo
        · rw [w2, wd3, shuts_det 61 61 _ _ _ _ w1 sr_]
      have e3 : scopeV m_504 (m_504 1).toNat (m_504 0).toNat (sn : Int) 3 = 0 := by
        unfold scopeV
        rw [if_pos ⟨by omega, by omega⟩, if_neg (by decide), if_neg (by decide), if_neg (by decide), if_pos rfl]
        exact hz0
      obtain ⟨p2, kq, pl1, pl2, pl3⟩ := oa_plan (G := G) (l := l) I_504 (q := sn) (by omega) (fun _ => 0)
      have pl4 := (plan_all (I_504.plh js) 61 sn _ _ _ _ pl1).1
      rw [inN_held (I_504.plh js), hz0] at pl4
      have e0 : planV p2 kq (-1) = 0 := by
        unfold planV
        rw [if_pos ⟨by omega, by omega⟩, if_pos (by decide)]
        omega
      refine r_istore (pc := 507) dL_law_507 (Nat.le_of_ble_eq_true rfl) ?_
      dsimp only [lsSt, List.set, mLs, mEnt]
      refine r_iload_n (pc := 509) dL_law_509 rfl ?_
      refine r_iload (pc := 510) dL_law_510 rfl ?_
      refine r_iload (pc := 512) dL_law_512 rfl ?_
      refine rj_icmp_ne (pc := 514) (tgt := 570) dL_law_514 (by decide) (by first | exact b01_r | exact bz_r | omega | (constructor <;> omega) | apply_assumption | (apply atF_r; assumption) | fail "no range") (by first | exact b01_r | exact bz_r | omega | (constructor <;> omega) | apply_assumption | (apply atF_r; assumption) | fail "no range") (fun c_514 => ?_) (fun c_514 => ?_)
      · exfalso; first | omega | contradiction | (simp at *; done)
      · refine r_iload (pc := 517) dL_law_517 rfl ?_
        refine rj_if_lt (pc := 519) (tgt := 566) dL_law_519 (by decide) (by first | exact b01_r | exact bz_r | omega | (constructor <;> omega) | apply_assumption | (apply atF_r; assumption) | fail "no range") (fun c_519 => ?_) (fun c_519 => ?_)
        · exfalso; first | omega | contradiction | (simp at *; done)
        · refine r_aload_n (pc := 522) dL_law_522 rfl (by first | rfl | exact isRefV_rf _) ?_
          refine r_iload (pc := 523) dL_law_523 rfl ?_
          refine rj_iconst (pc := 525) dL_law_525 ?_
          refine r_callV2 (pc := 526) dL_law_526 qX10_scope kL_57 vX10_scope ho rfl rfl (Nat.le_of_ble_eq_true rfl) ((oa_scope I_504 (a := (sn : Int)) (by constructor <;> omega) (i := 3) (by constructor <;> omega)).deeper (Nat.le_of_ble_eq_true rfl)) (fun v_526 h_526 q_526 => ?_)
          obtain ⟨rfl, e_h⟩ := q_526; replace e_h := e_h.symm; subst e_h
          rw [e3]
          refine rj_if_ne (pc := 529) (tgt := 570) dL_law_529 (by decide) (by first | exact b01_r | exact bz_r | omega | (constructor <;> omega) | apply_assumption | (apply atF_r; assumption) | fail "no range") (fun c_529 => ?_) (fun c_529 => ?_)
          · try simp only [b01_0, bz_0, Classical.not_not] at c_529
            exfalso; first | omega | contradiction | (simp at *; done)
          · try simp only [b01_0, bz_0, Classical.not_not] at c_529
            refine r_aload_n (pc := 532) dL_law_532 rfl (by first | rfl | exact isRefV_rf _) ?_
            refine rj_iconst (pc := 533) dL_law_533 ?_
            refine r_callV1 (pc := 534) dL_law_534 qX10_told kL_43 vX10_told ho rfl rfl (Nat.le_of_ble_eq_true rfl) ((oa_tld I_504 (k := 3) (by omega)).deeper (Nat.le_of_ble_eq_true rfl)) (fun v_534 h_534 q_534 => ?_)
            obtain ⟨rfl, e_h⟩ := q_534; replace e_h := e_h.symm; subst e_h
            rw [show toldV m_504 0 0 (m_504 1).toNat (m_504 0).toNat (m_504 3).toNat 3 = cnt (heldB m_504) (m_504 1).toNat from rfl]
            refine r_iload (pc := 537) dL_law_537 rfl ?_
            refine rj_icmp_ne (pc := 539) (tgt := 570) dL_law_539 (by decide) (by first | exact b01_r | exact bz_r | omega | (constructor <;> omega) | apply_assumption | (apply atF_r; assumption) | fail "no range") (by first | exact b01_r | exact bz_r | omega | (constructor <;> omega) | apply_assumption | (apply atF_r; assumption) | fail "no range") (fun c_539 => ?_) (fun c_539 => ?_)
            · exfalso; first | omega | contradiction | (simp at *; done)
            · refine r_aload_n (pc := 542) dL_law_542 rfl (by first | rfl | exact isRefV_rf _) ?_
              refine rj_bipush (pc := 543) dL_law_543 (by decide +kernel) ?_
              refine r_callV1 (pc := 545) dL_law_545 qX10_told kL_43 vX10_told ho rfl rfl (Nat.le_of_ble_eq_true rfl) ((oa_tld I_504 (k := 7) (by omega)).deeper (Nat.le_of_ble_eq_true rfl)) (fun v_545 h_545 q_545 => ?_)
              obtain ⟨rfl, e_h⟩ := q_545; replace e_h := e_h.symm; subst e_h
              rw [show toldV m_504 0 0 (m_504 1).toNat (m_504 0).toNat (m_504 3).toNat 7 = m_504 2 from rfl]
              refine r_iload (pc := 548) dL_law_548 rfl ?_
              refine r_iload (pc := 550) dL_law_550 rfl ?_
              refine rj_iadd (pc := 552) dL_law_552 ?_
              refine rj_icmp_ne (pc := 553) (tgt := 570) dL_law_553 (by decide) (by first | exact b01_r | exact bz_r | omega | (constructor <;> omega) | apply_assumption | (apply atF_r; assumption) | fail "no range") (by first | exact b01_r | exact bz_r | omega | (constructor <;> omega) | apply_assumption | (apply atF_r; assumption) | fail "no range") (fun c_553 => ?_) (fun c_553 => ?_)
              · exfalso; first | omega | contradiction | (simp at *; done)
              · refine r_aload_n (pc := 556) dL_law_556 rfl (by first | rfl | exact isRefV_rf _) ?_
                refine r_iload (pc := 557) dL_law_557 rfl ?_
                refine rj_iconst (pc := 559) dL_law_559 ?_
                refine r_callV2 (pc := 560) dL_law_560 qX10_plan kL_136 vX10_plan ho rfl rfl (Nat.le_of_ble_eq_true rfl) ((pl3 (i := -1) (by constructor <;> omega)).deeper (Nat.le_of_ble_eq_true rfl)) (fun v_560 h_560 q_560 => ?_)
                obtain ⟨rfl, e_h⟩ := q_560; replace e_h := e_h.symm; subst e_h
                rw [e0]
                refine rj_if_ne (pc := 563) (tgt := 570) dL_law_563 (by decide) (by first | exact b01_r | exact bz_r | omega | (constructor <;> omega) | apply_assumption | (apply atF_r; assumption) | fail "no range") (fun c_563 => ?_) (fun c_563 => ?_)
                · try simp only [b01_0, bz_0, Classical.not_not] at c_563
                  exfalso; first | omega | contradiction | (simp at *; done)
                · try simp only [b01_0, bz_0, Classical.not_not] at c_563
                  refine rj_iconst (pc := 566) dL_law_566 ?_
                  refine r_goto (pc := 567) (tgt := 571) dL_law_567 (by decide) ?_
                  refine rj_and1 (pc := 571) dL_law_571 ?_
                  refine r_istore_n (pc := 572) dL_law_572 (Nat.le_of_ble_eq_true rfl) ?_
                  dsimp only [lsSt, List.set, mLs, mEnt]
                  refine r_goto (pc := 573) (tgt := 1216) dL_law_573 (by decide) ?_
                  exact K _ _ _ _ _ _ _ (m_504 5) _ _ _ _ _ I_504 js (by omega) ((((GRk.one s_452 t_452 u_452).tr (GRk.one s_461 t_461 u_461)).tr ((GRk.one s_470 t_470 u_470).tr (GRk.one s_504 t_504 u_504))).to (by decide)) (by constructor <;> omega) (Or.inl b5.1)
set_option maxHeartbeats 4000000 in
set_option maxRecDepth 100000 in
theorem law_image (hG : G.2.map Prod.snd = mTy) (hn0 : n0 ≤ 500) (hI : RO x (x + 196) n0 f4 m kpm pool 0 ft h) (hj : JI m) (hs : 0 ≤ s ∧ s ≤ m 0 - 1) (hsg : sgt m = sg) (K : TLK G l x n0 b h tn kk s (m 1) qq sg Q) : RUN G l 2048 mLaw 721 [some (.ref b), some (.ref x), some (.int (J 1)), some (.int (J tn)), some (.int qq), some (.int (J kk)), some (.int (J s)), some (.int (J (m 1))), some (.long sg), none, some (.int (J 0)), a11, a12, a13, a14, a15] [] h Q := by
  obtain ⟨fs, ho⟩ := hI.gx
  obtain ⟨m0, m1, m2, m3, hh, hnc, hns, hsc⟩ := hI.b2
  refine r_iload_n (pc := 721) dL_law_721 rfl ?_
  refine r_aload_n (pc := 722) dL_law_722 rfl (by first | rfl | exact isRefV_rf _) ?_
  refine r_callV0 (pc := 723) dL_law_723 qX10_image kL_152 vX10_image ho rfl rfl (Nat.le_of_ble_eq_true rfl) ((oc_image hG (by omega) hI).deeper (Nat.le_of_ble_eq_true rfl)) (fun v_723 h_723 q_723 => ?_)
  obtain ⟨z_723, g_723, m_723, kp_723, po_723, zt_723, ft_723, rfl, R_723, I_723, F_723, s_723, t_723, u_723⟩ := q_723
  obtain ⟨ze, c1, c2, c3, c4, c5, c6⟩ := R_723
  subst ze
  subst c1
  replace c2 := c2.symm; subst c2; replace c3 := c3.symm; subst c3; replace c4 := c4.symm; subst c4; replace c5 := c5.symm; subst c5; replace c6 := c6.symm; subst c6
  obtain ⟨fs_723, ho⟩ := I_723.gx
  refine r_aload_n (pc := 726) dL_law_726 rfl (by first | rfl | exact isRefV_rf _) ?_
  refine rj_iconst (pc := 727) dL_law_727 ?_
  refine r_callV1 (pc := 728) dL_law_728 qX10_told kL_43 vX10_told ho rfl rfl (Nat.le_of_ble_eq_true rfl) ((oa_tld I_723 (k := 3) (by omega)).deeper (Nat.le_of_ble_eq_true rfl)) (fun v_728 h_728 q_728 => ?_)
  obtain ⟨rfl, e_h⟩ := q_728; replace e_h := e_h.symm; subst e_h
  rw [show toldV m 0 0 (m 1).toNat (m 0).toNat (m 3).toNat 3 = cnt (heldB m) (m 1).toNat from rfl]
  refine rj_icmp_ne (pc := 731) (tgt := 766) dL_law_731 (by decide) (by first | exact b01_r | exact bz_r | omega | (constructor <;> omega) | apply_assumption | (apply atF_r; assumption) | fail "no range") (by first | exact b01_r | exact bz_r | omega | (constructor <;> omega) | apply_assumption | (apply atF_r; assumption) | fail "no range") (fun c_731 => ?_) (fun c_731 => ?_)
  · exfalso; first | omega | contradiction | (simp at *; done)
  · refine r_aload_n (pc := 734) dL_law_734 rfl (by first | rfl | exact isRefV_rf _) ?_
    refine rj_iconst (pc := 735) dL_law_735 ?_
    have op : openP m 0 := by
      have z1 : ¬ m 18 = 1 := hns 0 (by omega)
      have z2 : 0 ≤ m 18 ∧ m 18 ≤ 2 := (hsc.2.2 0 (by omega)).1
      have z3 := hsc.2.1
      exact ⟨Int.le_refl _, by omega, by show m 18 = 0; omega⟩
    refine r_callV1 (pc := 736) dL_law_736 qX10_shut kL_133 vX10_shut ho rfl rfl (Nat.le_of_ble_eq_true rfl) ((oc_shut hG (by omega) I_723 (a := 0) (by constructor <;> omega)).deeper (Nat.le_of_ble_eq_true rfl)) (fun v_736 h_736 q_736 => ?_)
    obtain ⟨z_736, g_736, m_736, kp_736, po_736, zt_736, ft_736, rfl, R_736, I_736, F_736, s_736, t_736, u_736⟩ := q_736
    rcases R_736 with ⟨no, -⟩ | ⟨-, sr_, ze, d1, d2, d3, d4, d5⟩
    · exact absurd op no
    subst ze
    replace d1 := d1.symm; subst d1; replace d2 := d2.symm; subst d2; replace d3 := d3.symm; subst d3; replace d4 := d4.symm; subst d4; replace d5 := d5.symm; subst d5
    obtain ⟨js, ns⟩ := J_shut hj hnc sr_
    obtain ⟨fs_736, ho⟩ := I_736.gx
    obtain ⟨k0, k1, k2, k3, kh, knc, kns, ksc⟩ := I_736.b2
    have b5 := I_736.b5
    obtain ⟨kS, kO⟩ := shuts_J 61 _ _ _ hj.u5 hnc.u5 sr_
    have km : m_736 0 = m 0 := by have z := kS.1.1; rw [updI_n (by omega)] at z; exact z
    obtain ⟨sh1, sh2, -⟩ := kO ⟨op.1, by rw [updI_n (by omega)]; exact op.2.1, by rw [updI_n (by omega)]; exact op.2.2⟩
    have hz0 := held_none ksc kns js (s := 0) sh1 sh2
    obtain ⟨B1_, T1_, hA1_, -, -⟩ := I_736.rows
    have hz1 : cnt (heldInB m_736 (m_736 0).toNat 0) (m_736 1).toNat = 0 := hz0
    rw [held_root_n hA1_.1.1 ksc] at hz1
    refine rj_if_lt (pc := 739) (tgt := 766) dL_law_739 (by decide) (by first | exact b01_r | exact bz_r | omega | (constructor <;> omega) | apply_assumption | (apply atF_r; assumption) | fail "no range") (fun c_739 => ?_) (fun c_739 => ?_)
    · exfalso; first | omega | contradiction | (simp at *; done)
    · refine r_aload_n (pc := 742) dL_law_742 rfl (by first | rfl | exact isRefV_rf _) ?_
      refine rj_iconst (pc := 743) dL_law_743 ?_
      refine r_callV1 (pc := 744) dL_law_744 qX10_told kL_43 vX10_told ho rfl rfl (Nat.le_of_ble_eq_true rfl) ((oa_tld I_736 (k := 3) (by omega)).deeper (Nat.le_of_ble_eq_true rfl)) (fun v_744 h_744 q_744 => ?_)
      obtain ⟨rfl, e_h⟩ := q_744; replace e_h := e_h.symm; subst e_h
      rw [show toldV m_736 0 0 (m_736 1).toNat (m_736 0).toNat (m_736 3).toNat 3 = cnt (heldB m_736) (m_736 1).toNat from rfl]
      rw [hz1]
      refine rj_if_ne (pc := 747) (tgt := 766) dL_law_747 (by decide) (by first | exact b01_r | exact bz_r | omega | (constructor <;> omega) | apply_assumption | (apply atF_r; assumption) | fail "no range") (fun c_747 => ?_) (fun c_747 => ?_)
      · try simp only [b01_0, bz_0, Classical.not_not] at c_747
        exfalso; first | omega | contradiction | (simp at *; done)
      · try simp only [b01_0, bz_0, Classical.not_not] at c_747
        refine r_aload_n (pc := 750) dL_law_750 rfl (by first | rfl | exact isRefV_rf _) ?_
        refine r_callV0 (pc := 751) dL_law_751 qX10_undo kL_155 vX10_undo ho rfl rfl (Nat.le_of_ble_eq_true rfl) ((oc_undo hG (by omega) I_736).deeper (Nat.le_of_ble_eq_true rfl)) (fun v_751 h_751 q_751 => ?_)
        obtain ⟨z_751, g_751, m_751, kp_751, po_751, zt_751, ft_751, rfl, R_751, I_751, F_751, s_751, t_751, u_751⟩ := q_751
        obtain ⟨ze, e1_, d1, d2, d3, d4, d5⟩ := R_751 rfl
        subst ze
        replace e1_ := e1_.symm; subst e1_; replace d1 := d1.symm; subst d1; replace d2 := d2.symm; subst d2; replace d3 := d3.symm; subst d3; replace d4 := d4.symm; subst d4; replace d5 := d5.symm; subst d5
        obtain ⟨fs_751, ho⟩ := I_751.gx
        refine r_aload_n (pc := 754) dL_law_754 rfl (by first | rfl | exact isRefV_rf _) ?_
        refine rj_iconst (pc := 755) dL_law_755 ?_
        refine r_callV1 (pc := 756) dL_law_756 qX10_told kL_43 vX10_told ho rfl rfl (Nat.le_of_ble_eq_true rfl) ((oa_tld I_751 (k := 3) (by omega)).deeper (Nat.le_of_ble_eq_true rfl)) (fun v_756 h_756 q_756 => ?_)
        obtain ⟨rfl, e_h⟩ := q_756; replace e_h := e_h.symm; subst e_h
        rw [show toldV m 0 0 (m 1).toNat (m 0).toNat (m 3).toNat 3 = cnt (heldB m) (m 1).toNat from rfl]
        refine rj_icmp_ne (pc := 759) (tgt := 766) dL_law_759 (by decide) (by first | exact b01_r | exact bz_r | omega | (constructor <;> omega) | apply_assumption | (apply atF_r; assumption) | fail "no range") (by first | exact b01_r | exact bz_r | omega | (constructor <;> omega) | apply_assumption | (apply atF_r; assumption) | fail "no range") (fun c_759 => ?_) (fun c_759 => ?_)
        · exfalso; first | omega | contradiction | (simp at *; done)
        · refine rj_iconst (pc := 762) dL_law_762 ?_
          refine r_goto (pc := 763) (tgt := 767) dL_law_763 (by decide) ?_
          refine rj_and1 (pc := 767) dL_law_767 ?_
          refine r_istore_n (pc := 768) dL_law_768 (Nat.le_of_ble_eq_true rfl) ?_
          dsimp only [lsSt, List.set, mLs, mEnt]
          refine r_iload_n (pc := 769) dL_law_769 rfl ?_
          refine r_aload_n (pc := 770) dL_law_770 rfl (by first | rfl | exact isRefV_rf _) ?_
          refine r_callS1 (pc := 771) dL_law_771 qL_sight kL_94 sL_sight (Nat.le_of_ble_eq_true rfl) ((jl_sight I_751).deeper (Nat.le_of_ble_eq_true rfl)) (fun v_771 h_771 q_771 => ?_)
          obtain ⟨rfl, e_h⟩ := q_771; replace e_h := e_h.symm; subst e_h
          refine r_lload (pc := 774) dL_law_774 rfl ?_
          refine r_lcmp (pc := 776) dL_law_776 ?_
          rw [hsg, lcmp_self]
          refine rj_if_ne (pc := 777) (tgt := 784) dL_law_777 (by decide) (by first | exact b01_r | exact bz_r | omega | (constructor <;> omega) | apply_assumption | (apply atF_r; assumption) | fail "no range") (fun c_777 => ?_) (fun c_777 => ?_)
          · try simp only [b01_0, bz_0, Classical.not_not] at c_777
            exfalso; first | omega | contradiction | (simp at *; done)
          · try simp only [b01_0, bz_0, Classical.not_not] at c_777
            refine rj_iconst (pc := 780) dL_law_780 ?_
            refine r_goto (pc := 781) (tgt := 785) dL_law_781 (by decide) ?_
            refine rj_and1 (pc := 785) dL_law_785 ?_
            refine r_istore_n (pc := 786) dL_law_786 (Nat.le_of_ble_eq_true rfl) ?_
            dsimp only [lsSt, List.set, mLs, mEnt]
            refine r_goto (pc := 787) (tgt := 1216) dL_law_787 (by decide) ?_
            exact K _ _ _ _ _ _ _ 0 _ _ _ _ _ I_751 hj (by omega) (((GRk.one s_723 t_723 u_723).tr ((GRk.one s_736 t_736 u_736).tr (GRk.one s_751 t_751 u_751))).to (by decide)) (by constructor <;> omega) (Or.inl (Int.le_refl _))
end NA
