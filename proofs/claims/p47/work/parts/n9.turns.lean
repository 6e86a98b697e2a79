/-! ===== the branches of a turn (by program) ===== -/
def GRW (x : Nat) (h h1 : mH) : Prop := (h1.1 = h.1 ∧ ∀ b, b < x → hGet h1 b = hGet h b) ∧ h1.2.1 ≤ h.2.1 + 4000 ∧ h1.2.2.1 ≤ h.2.2.1 + 40000
/-- the end of the turn takes over -/
def TLK (G : mG) (l : Launch) (x n0 b : Nat) (h : mH) (tn kk s N : Int) (qq : Int32) (sg : Int64) (Q : Option Value → mH → Prop) : Prop := ∀ (n1 : Nat) (h1 : mH) (g4 : Int) (m1 kp1 po1 : Nat → Int) (f1 : Nat → Int) (X : Int) (a11 a12 a13 a14 a15 : Option Value), RO x (x + 196) n1 g4 m1 kp1 po1 0 f1 h1 → JI m1 → n1 ≤ n0 + 5 → GRW x h h1 → InR X → (0 ≤ X ∨ X = -99 ∨ sgt m1 = sg) → RUN G l 2048 mLaw 1216 [some (.ref b), some (.ref x), some (.int (J 1)), some (.int (J tn)), some (.int qq), some (.int (J kk)), some (.int (J s)), some (.int (J N)), some (.long sg), none, some (.int (J X)), a11, a12, a13, a14, a15] [] h1 Q
section N9
variable {G : mG} {l : Launch} {x n0 : Nat} {h : mH} {f4 : Int} {m kpm pool : Nat → Int} {ft : Nat → Int} {b : Nat} {tn kk s : Int} {qq : Int32} {sg : Int64} {a11 a12 a13 a14 a15 : Option Value} {Q : Option Value → mH → Prop}
theorem GRW.one {h1 : mH} (s : h1.1 = h.1 ∧ ∀ b, b < x → hGet h1 b = hGet h b) (t1 : h1.2.1 ≤ h.2.1 + 400) (t2 : h1.2.2.1 ≤ h.2.2.1 + 6000) : GRW x h h1 := ⟨s, by omega, by omega⟩
theorem GRW.rf : GRW x h h := ⟨⟨rfl, fun _ _ => rfl⟩, by omega, by omega⟩
theorem RO.b5 {y : Nat} {zt : Int} (hI : RO x y n0 f4 m kpm pool zt ft h) : 0 ≤ m 5 ∧ m 5 ≤ 120 := by
  obtain ⟨B0, T0, ⟨⟨hInv, -⟩, -⟩, -, -⟩ := hI.rows
  exact hInv.1.2.2.2.2.2.2.1
theorem posmod {k : Int} (hk : 0 < k ∧ k ≤ 100) {u : Int} (hu : 0 ≤ u ∧ u ≤ 100) : J u - J u / J k * J k = J (u % k) ∧ ¬ J k = 0 := by
  obtain ⟨n, rfl⟩ : ∃ n : Nat, u = n := ⟨u.toNat, by omega⟩
  obtain ⟨j, rfl⟩ : ∃ j : Nat, k = j := ⟨k.toNat, by omega⟩
  have z : ∀ p : Fin 101, ∀ q : Fin 101, 0 < q.val → (Int32.ofInt ((p.val : Nat) : Int) - Int32.ofInt ((p.val : Nat) : Int) / Int32.ofInt ((q.val : Nat) : Int) * Int32.ofInt ((q.val : Nat) : Int) = Int32.ofInt (((p.val : Nat) : Int) % ((q.val : Nat) : Int)) ∧ ¬ Int32.ofInt ((q.val : Nat) : Int) = 0) := by decide +kernel
  rw [J_def, J_def, J_def]
  exact z ⟨n, by omega⟩ ⟨j, by omega⟩ (by show 0 < j; omega)
theorem rj_mod {d : Nat} {M : mM} {pc : Nat} {ls : List (Option Value)} {st : List Value} {u k : Int} (hdg : decode M.2.1 pc = .ok (.irem, 1)) (hk : 0 < k ∧ k ≤ 100) (hu : 0 ≤ u ∧ u ≤ 100) (K : RUN G l d M (pc + 1) ls (.int (J (u % k)) :: st) h Q) : RUN G l d M pc ls (.int (J k) :: .int (J u) :: st) h Q := r_irem hdg (posmod hk hu).2 (by rw [(posmod hk hu).1]; exact K)
theorem rj_andM {d : Nat} {M : mM} {pc : Nat} {ls : List (Option Value)} {st : List Value} {y : Int32} {mm : Int} (hdg : decode M.2.1 pc = .ok (.iand, 1)) (hm : 0 ≤ mm ∧ mm < 2147483648) (K : ∀ e : Int, 0 ≤ e ∧ e ≤ mm → RUN G l d M (pc + 1) ls (.int (J e) :: st) h Q) : RUN G l d M pc ls (.int (J mm) :: .int y :: st) h Q := by
  obtain ⟨e, e1, e2⟩ := and_J y hm
  exact r_iand hdg (by rw [e1]; exact K e e2)
set_option maxHeartbeats 4000000 in
set_option maxRecDepth 100000 in
theorem law_open (hG : G.2.map Prod.snd = mTy) (hn0 : n0 ≤ 500) (hI : RO x (x + 196) n0 f4 m kpm pool 0 ft h) (hj : JI m) (hs : 0 ≤ s ∧ s ≤ m 0 - 1) (hsg : sgt m = sg) (K : TLK G l x n0 b h tn kk s (m 1) qq sg Q) : RUN G l 2048 mLaw 69 [some (.ref b), some (.ref x), some (.int (J 1)), some (.int (J tn)), some (.int qq), some (.int (J kk)), some (.int (J s)), some (.int (J (m 1))), some (.long sg), none, some (.int (J 0)), a11, a12, a13, a14, a15] [] h Q := by
  obtain ⟨fs, ho⟩ := hI.gx
  obtain ⟨m0, m1, m2, m3, hh, hnc, hns, hsc⟩ := hI.b2
  refine r_aload_n (pc := 69) dL_law_69 rfl (by first | rfl | exact isRefV_rf _) ?_
  refine r_iload (pc := 70) dL_law_70 rfl ?_
  refine r_callV1 (pc := 72) dL_law_72 qX10_open kL_98 vX10_open ho rfl rfl (Nat.le_of_ble_eq_true rfl) ((oc_open hG (by omega) hI (a := s) (by constructor <;> omega)).deeper (Nat.le_of_ble_eq_true rfl)) (fun v_72 h_72 q_72 => ?_)
  obtain ⟨z_72, g_72, m_72, kp_72, po_72, zt_72, ft_72, rfl, R_72, I_72, F_72, s_72, t_72, u_72⟩ := q_72
  rcases R_72 with ⟨n_72, rfl, rfl, rfl, rfl, rfl, rfl⟩ | ⟨C_, q_, K0, rfl, K6, qC, o0, rfl, rfl, rfl, rfl, rfl, rfl, rfl⟩
  · refine r_istore (pc := 75) dL_law_75 (Nat.le_of_ble_eq_true rfl) ?_
    dsimp only [lsSt, List.set, mLs, mEnt]
    refine r_iload_n (pc := 77) dL_law_77 rfl ?_
    refine r_iload (pc := 78) dL_law_78 rfl ?_
    refine rj_if_lt (pc := 80) (tgt := 105) dL_law_80 (by decide) (by first | exact b01_r | exact bz_r | omega | (constructor <;> omega) | apply_assumption | (apply atF_r; assumption) | fail "no range") (fun c_80 => ?_) (fun c_80 => ?_)
    · refine rj_iconst (pc := 105) dL_law_105 ?_
      refine r_goto (pc := 106) (tgt := 110) dL_law_106 (by decide) ?_
      refine rj_and1 (pc := 110) dL_law_110 ?_
      refine r_istore_n (pc := 111) dL_law_111 (Nat.le_of_ble_eq_true rfl) ?_
      dsimp only [lsSt, List.set, mLs, mEnt]
      refine r_goto (pc := 112) (tgt := 1216) dL_law_112 (by decide) ?_
      exact K _ _ _ _ _ _ _ z_72 _ _ _ _ _ I_72 hj (by omega) (GRW.one s_72 t_72 u_72) (by constructor <;> omega) (Or.inr (Or.inr hsg))
    · exfalso; first | omega | contradiction | (simp at *; done)
  · obtain ⟨v0, v1, v2, v3, v4, v5, v6⟩ := opensM_at (m := m) (C := C_) (p := (q_ : Int)) (t := -5)
    obtain ⟨fs2, ho⟩ := I_72.gx
    have e1 : scopeV (opensM m C_ q_ (-5)) (opensM m C_ q_ (-5) 1).toNat (opensM m C_ q_ (-5) 0).toNat (C_ : Int) 1 = q_ := by
      unfold scopeV
      rw [if_pos ⟨by omega, by omega⟩, if_neg (by decide), if_pos rfl, show ((19 : Int) + 4 * (C_ : Int)).toNat = 19 + 4 * C_ by omega]
      exact v2
    have e2 : scopeV (opensM m C_ q_ (-5)) (opensM m C_ q_ (-5) 1).toNat (opensM m C_ q_ (-5) 0).toNat (C_ : Int) 2 = 0 := by
      unfold scopeV
      rw [if_pos ⟨by omega, by omega⟩, if_neg (by decide), if_neg (by decide), if_pos rfl]
      have z := ents_none (m := m) hj hsc (N := (opensM m C_ q_ (-5) 1).toNat) (C := (opensM m C_ q_ (-5) 0).toNat) (by rw [v6 1 (by omega) (by omega) (by omega)]) (by omega) (m' := opensM m C_ q_ (-5)) (fun q hq => v6 q (by omega) (by omega) (by omega)) (fun c hc => ⟨v6 _ (by omega) (by omega) (by omega), v6 _ (by omega) (by omega) (by omega)⟩) (p := (q_ : Int)) (by rw [show (m 0).toNat = C_ by omega]; exact v2) (by omega)
      rw [K0] at z
      exact z
    refine r_istore (pc := 75) dL_law_75 (Nat.le_of_ble_eq_true rfl) ?_
    dsimp only [lsSt, List.set, mLs, mEnt]
    refine r_iload_n (pc := 77) dL_law_77 rfl ?_
    refine r_iload (pc := 78) dL_law_78 rfl ?_
    refine rj_if_lt (pc := 80) (tgt := 105) dL_law_80 (by decide) (by first | exact b01_r | exact bz_r | omega | (constructor <;> omega) | apply_assumption | (apply atF_r; assumption) | fail "no range") (fun c_80 => ?_) (fun c_80 => ?_)
    · exfalso; first | omega | contradiction | (simp at *; done)
    · refine r_aload_n (pc := 83) dL_law_83 rfl (by first | rfl | exact isRefV_rf _) ?_
      refine r_iload (pc := 84) dL_law_84 rfl ?_
      refine rj_iconst (pc := 86) dL_law_86 ?_
      refine r_callV2 (pc := 87) dL_law_87 qX10_scope kL_57 vX10_scope ho rfl rfl (Nat.le_of_ble_eq_true rfl) ((oa_scope I_72 (a := (C_ : Int)) (by constructor <;> omega) (i := 1) (by constructor <;> omega)).deeper (Nat.le_of_ble_eq_true rfl)) (fun v_87 h_87 q_87 => ?_)
      obtain ⟨rfl, e_h⟩ := q_87; replace e_h := e_h.symm; subst e_h
      rw [e1]
      refine r_iload (pc := 90) dL_law_90 rfl ?_
      refine rj_icmp_ne (pc := 92) (tgt := 109) dL_law_92 (by decide) (by first | exact b01_r | exact bz_r | omega | (constructor <;> omega) | apply_assumption | (apply atF_r; assumption) | fail "no range") (by first | exact b01_r | exact bz_r | omega | (constructor <;> omega) | apply_assumption | (apply atF_r; assumption) | fail "no range") (fun c_92 => ?_) (fun c_92 => ?_)
      · exfalso; first | omega | contradiction | (simp at *; done)
      · refine r_aload_n (pc := 95) dL_law_95 rfl (by first | rfl | exact isRefV_rf _) ?_
        refine r_iload (pc := 96) dL_law_96 rfl ?_
        refine rj_iconst (pc := 98) dL_law_98 ?_
        refine r_callV2 (pc := 99) dL_law_99 qX10_scope kL_57 vX10_scope ho rfl rfl (Nat.le_of_ble_eq_true rfl) ((oa_scope I_72 (a := (C_ : Int)) (by constructor <;> omega) (i := 2) (by constructor <;> omega)).deeper (Nat.le_of_ble_eq_true rfl)) (fun v_99 h_99 q_99 => ?_)
        obtain ⟨rfl, e_h⟩ := q_99; replace e_h := e_h.symm; subst e_h
        rw [e2]
        refine rj_if_ne (pc := 102) (tgt := 109) dL_law_102 (by decide) (by first | exact b01_r | exact bz_r | omega | (constructor <;> omega) | apply_assumption | (apply atF_r; assumption) | fail "no range") (fun c_102 => ?_) (fun c_102 => ?_)
        · try simp only [b01_0, bz_0, Classical.not_not] at c_102
          exfalso; first | omega | contradiction | (simp at *; done)
        · try simp only [b01_0, bz_0, Classical.not_not] at c_102
          refine rj_iconst (pc := 105) dL_law_105 ?_
          refine r_goto (pc := 106) (tgt := 110) dL_law_106 (by decide) ?_
          refine rj_and1 (pc := 110) dL_law_110 ?_
          refine r_istore_n (pc := 111) dL_law_111 (Nat.le_of_ble_eq_true rfl) ?_
          dsimp only [lsSt, List.set, mLs, mEnt]
          refine r_goto (pc := 112) (tgt := 1216) dL_law_112 (by decide) ?_
          exact K _ _ _ _ _ _ _ _ _ _ _ _ _ I_72 (J_opens hj K0 K6) (by omega) (GRW.one s_72 t_72 u_72) (by constructor <;> omega) (Or.inl (by omega))
set_option maxHeartbeats 4000000 in
set_option maxRecDepth 100000 in
theorem law_close (hG : G.2.map Prod.snd = mTy) (hn0 : n0 ≤ 500) (hI : RO x (x + 196) n0 f4 m kpm pool 0 ft h) (hj : JI m) (hs : 0 ≤ s ∧ s ≤ m 0 - 1) (hsg : sgt m = sg) (K : TLK G l x n0 b h tn kk s (m 1) qq sg Q) : RUN G l 2048 mLaw 412 [some (.ref b), some (.ref x), some (.int (J 1)), some (.int (J tn)), some (.int qq), some (.int (J kk)), some (.int (J s)), some (.int (J (m 1))), some (.long sg), none, some (.int (J 0)), a11, a12, a13, a14, a15] [] h Q := by
  obtain ⟨fs, ho⟩ := hI.gx
  obtain ⟨m0, m1, m2, m3, hh, hnc, hns, hsc⟩ := hI.b2
  refine r_iload (pc := 412) dL_law_412 rfl ?_
  refine rj_if_le (pc := 414) (tgt := 435) dL_law_414 (by decide) (by first | exact b01_r | exact bz_r | omega | (constructor <;> omega) | apply_assumption | (apply atF_r; assumption) | fail "no range") (fun c_414 => ?_) (fun c_414 => ?_)
  · refine rj_iconst (pc := 435) dL_law_435 ?_
    refine r_istore (pc := 436) dL_law_436 (Nat.le_of_ble_eq_true rfl) ?_
    dsimp only [lsSt, List.set, mLs, mEnt]
    refine r_goto (pc := 438) (tgt := 1216) dL_law_438 (by decide) ?_
    exact K _ _ _ _ _ _ _ (-1) _ _ _ _ _ hI hj (by omega) GRW.rf (by constructor <;> omega) (Or.inr (Or.inr hsg))
  · refine r_aload_n (pc := 417) dL_law_417 rfl (by first | rfl | exact isRefV_rf _) ?_
    refine r_iload (pc := 418) dL_law_418 rfl ?_
    refine rj_bipush (pc := 420) dL_law_420 (by decide +kernel) ?_
    refine r_ishr (pc := 422) dL_law_422 ?_
    refine rj_bipush (pc := 423) dL_law_423 (by decide +kernel) ?_
    refine rj_andM (pc := 425) dL_law_425 (by constructor <;> decide) (fun e_425 he_425 => ?_)
    refine r_iload (pc := 426) dL_law_426 rfl ?_
    refine rj_mod (pc := 428) dL_law_428 (by omega) (by omega) ?_
    have md_428 : 0 ≤ e_425 % m 1 ∧ e_425 % m 1 < m 1 := ⟨Int.emod_nonneg _ (by omega), Int.emod_lt_of_pos _ (by omega)⟩
    refine r_callV1 (pc := 429) dL_law_429 qX10_close kL_127 vX10_close ho rfl rfl (Nat.le_of_ble_eq_true rfl) ((oc_close hG (by omega) hI (a := e_425 % m 1) (by constructor <;> omega)).deeper (Nat.le_of_ble_eq_true rfl)) (fun v_429 h_429 q_429 => ?_)
    obtain ⟨z_429, g_429, m_429, kp_429, po_429, zt_429, ft_429, rfl, R_429, I_429, F_429, s_429, t_429, u_429⟩ := q_429
    rcases R_429 with ⟨n_429, rfl, rfl, rfl, rfl, rfl, rfl⟩ | ⟨q_, qe, cd, r_429, rfl, rfl, rfl, rfl, rfl, rfl⟩
    · refine r_goto (pc := 432) (tgt := 436) dL_law_432 (by decide) ?_
      refine r_istore (pc := 436) dL_law_436 (Nat.le_of_ble_eq_true rfl) ?_
      dsimp only [lsSt, List.set, mLs, mEnt]
      refine r_goto (pc := 438) (tgt := 1216) dL_law_438 (by decide) ?_
      exact K _ _ _ _ _ _ _ z_429 _ _ _ _ _ I_429 hj (by omega) (GRW.one s_429 t_429 u_429) (by constructor <;> omega) (Or.inr (Or.inr hsg))
    · have b5 := I_429.b5
      refine r_goto (pc := 432) (tgt := 436) dL_law_432 (by decide) ?_
      refine r_istore (pc := 436) dL_law_436 (Nat.le_of_ble_eq_true rfl) ?_
      dsimp only [lsSt, List.set, mLs, mEnt]
      refine r_goto (pc := 438) (tgt := 1216) dL_law_438 (by decide) ?_
      exact K _ _ _ _ _ _ _ _ _ _ _ _ _ I_429 (J_close hj cd r_429) (by omega) (GRW.one s_429 t_429 u_429) (by constructor <;> omega) (Or.inl b5.1)
set_option maxHeartbeats 4000000 in
set_option maxRecDepth 100000 in
theorem law_move (hG : G.2.map Prod.snd = mTy) (hn0 : n0 ≤ 500) (hI : RO x (x + 196) n0 f4 m kpm pool 0 ft h) (hj : JI m) (hs : 0 ≤ s ∧ s ≤ m 0 - 1) (hsg : sgt m = sg) (K : TLK G l x n0 b h tn kk s (m 1) qq sg Q) : RUN G l 2048 mLaw 583 [some (.ref b), some (.ref x), some (.int (J 1)), some (.int (J tn)), some (.int qq), some (.int (J kk)), some (.int (J s)), some (.int (J (m 1))), some (.long sg), none, some (.int (J 0)), a11, a12, a13, a14, a15] [] h Q := by
  obtain ⟨fs, ho⟩ := hI.gx
  obtain ⟨m0, m1, m2, m3, hh, hnc, hns, hsc⟩ := hI.b2
  refine r_iload (pc := 583) dL_law_583 rfl ?_
  refine rj_if_le (pc := 585) (tgt := 608) dL_law_585 (by decide) (by first | exact b01_r | exact bz_r | omega | (constructor <;> omega) | apply_assumption | (apply atF_r; assumption) | fail "no range") (fun c_585 => ?_) (fun c_585 => ?_)
  · refine rj_iconst (pc := 608) dL_law_608 ?_
    refine r_istore (pc := 609) dL_law_609 (Nat.le_of_ble_eq_true rfl) ?_
    dsimp only [lsSt, List.set, mLs, mEnt]
    refine r_goto (pc := 611) (tgt := 1216) dL_law_611 (by decide) ?_
    exact K _ _ _ _ _ _ _ (-1) _ _ _ _ _ hI hj (by omega) GRW.rf (by constructor <;> omega) (Or.inr (Or.inr hsg))
  · refine r_aload_n (pc := 588) dL_law_588 rfl (by first | rfl | exact isRefV_rf _) ?_
    refine r_iload (pc := 589) dL_law_589 rfl ?_
    refine rj_bipush (pc := 591) dL_law_591 (by decide +kernel) ?_
    refine r_ishr (pc := 593) dL_law_593 ?_
    refine rj_bipush (pc := 594) dL_law_594 (by decide +kernel) ?_
    refine rj_andM (pc := 596) dL_law_596 (by constructor <;> decide) (fun e_596 he_596 => ?_)
    refine r_iload (pc := 597) dL_law_597 rfl ?_
    refine rj_mod (pc := 599) dL_law_599 (by omega) (by omega) ?_
    have md_599 : 0 ≤ e_596 % m 1 ∧ e_596 % m 1 < m 1 := ⟨Int.emod_nonneg _ (by omega), Int.emod_lt_of_pos _ (by omega)⟩
    refine r_iload (pc := 600) dL_law_600 rfl ?_
    refine r_callV2 (pc := 602) dL_law_602 qX10_move kL_139 vX10_move ho rfl rfl (Nat.le_of_ble_eq_true rfl) ((oc_move hG (by omega) hI (a := e_596 % m 1) (by constructor <;> omega) (i := s) (by constructor <;> omega)).deeper (Nat.le_of_ble_eq_true rfl)) (fun v_602 h_602 q_602 => ?_)
    obtain ⟨z_602, g_602, m_602, kp_602, po_602, zt_602, ft_602, rfl, R_602, I_602, F_602, s_602, t_602, u_602⟩ := q_602
    rcases R_602 with ⟨n_602, rfl, rfl, rfl, rfl, rfl, rfl⟩ | ⟨q_, u_, qe, rfl, md, z0, rfl, rfl, rfl, rfl, rfl, rfl⟩
    · refine r_goto (pc := 605) (tgt := 609) dL_law_605 (by decide) ?_
      refine r_istore (pc := 609) dL_law_609 (Nat.le_of_ble_eq_true rfl) ?_
      dsimp only [lsSt, List.set, mLs, mEnt]
      refine r_goto (pc := 611) (tgt := 1216) dL_law_611 (by decide) ?_
      exact K _ _ _ _ _ _ _ z_602 _ _ _ _ _ I_602 hj (by omega) (GRW.one s_602 t_602 u_602) (by constructor <;> omega) (Or.inr (Or.inr hsg))
    · refine r_goto (pc := 605) (tgt := 609) dL_law_605 (by decide) ?_
      refine r_istore (pc := 609) dL_law_609 (Nat.le_of_ble_eq_true rfl) ?_
      dsimp only [lsSt, List.set, mLs, mEnt]
      refine r_goto (pc := 611) (tgt := 1216) dL_law_611 (by decide) ?_
      exact K _ _ _ _ _ _ _ z_602 _ _ _ _ _ I_602 (J_moved hj md) (by omega) (GRW.one s_602 t_602 u_602) (by constructor <;> omega) (Or.inl z0.1)
set_option maxHeartbeats 4000000 in
set_option maxRecDepth 100000 in
theorem law_youngest (hG : G.2.map Prod.snd = mTy) (hn0 : n0 ≤ 500) (hI : RO x (x + 196) n0 f4 m kpm pool 0 ft h) (hj : JI m) (hs : 0 ≤ s ∧ s ≤ m 0 - 1) (hsg : sgt m = sg) (K : TLK G l x n0 b h tn kk s (m 1) qq sg Q) : RUN G l 2048 mLaw 1122 [some (.ref b), some (.ref x), some (.int (J 1)), some (.int (J tn)), some (.int qq), some (.int (J kk)), some (.int (J s)), some (.int (J (m 1))), some (.long sg), none, some (.int (J 0)), a11, a12, a13, a14, a15] [] h Q := by
  obtain ⟨fs, ho⟩ := hI.gx
  obtain ⟨m0, m1, m2, m3, hh, hnc, hns, hsc⟩ := hI.b2
  refine r_aload_n (pc := 1122) dL_law_1122 rfl (by first | rfl | exact isRefV_rf _) ?_
  refine r_iload (pc := 1123) dL_law_1123 rfl ?_
  have y3 := young_is (m := m) (N := (m 1).toNat) (C := (m 0).toNat) hs
  have s3 : scopeV m (m 1).toNat (m 0).toNat s 3 = cnt (heldInB m (m 0).toNat s) (m 1).toNat := by
    unfold scopeV
    rw [if_pos hs, if_neg (by decide), if_neg (by decide), if_neg (by decide), if_pos rfl]
  have cr := cnt_r (heldInB m (m 0).toNat s) (m 1).toNat
  refine r_callV1 (pc := 1125) dL_law_1125 qX10_youngest kL_166 vX10_youngest ho rfl rfl (Nat.le_of_ble_eq_true rfl) ((oa_youngest hI (a := s) (by constructor <;> omega)).deeper (Nat.le_of_ble_eq_true rfl)) (fun v_1125 h_1125 q_1125 => ?_)
  obtain ⟨rfl, e_h⟩ := q_1125; replace e_h := e_h.symm; subst e_h
  generalize youngV m (m 1).toNat (m 0).toNat s = yv at y3 ⊢
  rcases y3 with ⟨rfl, yc⟩ | ⟨yq, rfl, yq1, yq2, yc⟩
  · refine r_istore (pc := 1128) dL_law_1128 (Nat.le_of_ble_eq_true rfl) ?_
    dsimp only [lsSt, List.set, mLs, mEnt]
    refine r_iload_n (pc := 1130) dL_law_1130 rfl ?_
    refine r_iload (pc := 1131) dL_law_1131 rfl ?_
    refine rj_bipush (pc := 1133) dL_law_1133 (by decide +kernel) ?_
    refine rj_icmp_ne (pc := 1135) (tgt := 1142) dL_law_1135 (by decide) (by first | exact b01_r | exact bz_r | omega | (constructor <;> omega) | apply_assumption | (apply atF_r; assumption) | fail "no range") (by first | exact b01_r | exact bz_r | omega | (constructor <;> omega) | apply_assumption | (apply atF_r; assumption) | fail "no range") (fun c_1135 => ?_) (fun c_1135 => ?_)
    · refine rj_iconst (pc := 1142) dL_law_1142 ?_
      refine r_aload_n (pc := 1143) dL_law_1143 rfl (by first | rfl | exact isRefV_rf _) ?_
      refine r_iload (pc := 1144) dL_law_1144 rfl ?_
      refine rj_iconst (pc := 1146) dL_law_1146 ?_
      refine r_callV2 (pc := 1147) dL_law_1147 qX10_scope kL_57 vX10_scope ho rfl rfl (Nat.le_of_ble_eq_true rfl) ((oa_scope hI (a := s) (by constructor <;> omega) (i := 3) (by constructor <;> omega)).deeper (Nat.le_of_ble_eq_true rfl)) (fun v_1147 h_1147 q_1147 => ?_)
      obtain ⟨rfl, e_h⟩ := q_1147; replace e_h := e_h.symm; subst e_h
      rw [s3]
      refine rj_if_ne (pc := 1150) (tgt := 1157) dL_law_1150 (by decide) (by first | exact b01_r | exact bz_r | omega | (constructor <;> omega) | apply_assumption | (apply atF_r; assumption) | fail "no range") (fun c_1150 => ?_) (fun c_1150 => ?_)
      · try simp only [b01_0, bz_0, Classical.not_not] at c_1150
        refine rj_iconst (pc := 1157) dL_law_1157 ?_
        refine rj_icmp_ne (pc := 1158) (tgt := 1213) dL_law_1158 (by decide) (by first | exact b01_r | exact bz_r | omega | (constructor <;> omega) | apply_assumption | (apply atF_r; assumption) | fail "no range") (by first | exact b01_r | exact bz_r | omega | (constructor <;> omega) | apply_assumption | (apply atF_r; assumption) | fail "no range") (fun c_1158 => ?_) (fun c_1158 => ?_)
        · exfalso; first | omega | contradiction | (simp at *; done) | (simp at *; omega)
        · refine r_iload (pc := 1161) dL_law_1161 rfl ?_
          refine rj_if_lt (pc := 1163) (tgt := 1176) dL_law_1163 (by decide) (by first | exact b01_r | exact bz_r | omega | (constructor <;> omega) | apply_assumption | (apply atF_r; assumption) | fail "no range") (fun c_1163 => ?_) (fun c_1163 => ?_)
          · refine r_aload_n (pc := 1176) dL_law_1176 rfl (by first | rfl | exact isRefV_rf _) ?_
            refine r_iload (pc := 1177) dL_law_1177 rfl ?_
            refine rj_iconst (pc := 1179) dL_law_1179 ?_
            refine r_callV2 (pc := 1180) dL_law_1180 qX10_below kL_163 vX10_below ho rfl rfl (Nat.le_of_ble_eq_true rfl) ((oa_below hI (a := s) (by constructor <;> omega) (i := 0) (by constructor <;> omega)).deeper (Nat.le_of_ble_eq_true rfl)) (fun v_1180 h_1180 q_1180 => ?_)
            obtain ⟨rfl, e_h⟩ := q_1180; replace e_h := e_h.symm; subst e_h
            rw [below_root hsc hs]
            refine rj_iconst (pc := 1183) dL_law_1183 ?_
            refine rj_icmp_ne (pc := 1184) (tgt := 1213) dL_law_1184 (by decide) (by first | exact b01_r | exact bz_r | omega | (constructor <;> omega) | apply_assumption | (apply atF_r; assumption) | fail "no range") (by first | exact b01_r | exact bz_r | omega | (constructor <;> omega) | apply_assumption | (apply atF_r; assumption) | fail "no range") (fun c_1184 => ?_) (fun c_1184 => ?_)
            · exfalso; first | omega | contradiction | (simp at *; done) | (simp at *; omega)
            · refine r_aload_n (pc := 1187) dL_law_1187 rfl (by first | rfl | exact isRefV_rf _) ?_
              refine r_iload (pc := 1188) dL_law_1188 rfl ?_
              refine r_iload (pc := 1190) dL_law_1190 rfl ?_
              refine r_callV2 (pc := 1192) dL_law_1192 qX10_below kL_163 vX10_below ho rfl rfl (Nat.le_of_ble_eq_true rfl) ((oa_below hI (a := s) (by constructor <;> omega) (i := s) (by constructor <;> omega)).deeper (Nat.le_of_ble_eq_true rfl)) (fun v_1192 h_1192 q_1192 => ?_)
              obtain ⟨rfl, e_h⟩ := q_1192; replace e_h := e_h.symm; subst e_h
              rw [below_self hs]
              refine rj_iconst (pc := 1195) dL_law_1195 ?_
              refine rj_icmp_ne (pc := 1196) (tgt := 1213) dL_law_1196 (by decide) (by first | exact b01_r | exact bz_r | omega | (constructor <;> omega) | apply_assumption | (apply atF_r; assumption) | fail "no range") (by first | exact b01_r | exact bz_r | omega | (constructor <;> omega) | apply_assumption | (apply atF_r; assumption) | fail "no range") (fun c_1196 => ?_) (fun c_1196 => ?_)
              · exfalso; first | omega | contradiction | (simp at *; done) | (simp at *; omega)
              · refine r_aload_n (pc := 1199) dL_law_1199 rfl (by first | rfl | exact isRefV_rf _) ?_
                refine r_callS1 (pc := 1200) dL_law_1200 qL_sight kL_94 sL_sight (Nat.le_of_ble_eq_true rfl) ((jl_sight hI).deeper (Nat.le_of_ble_eq_true rfl)) (fun v_1200 h_1200 q_1200 => ?_)
                obtain ⟨rfl, e_h⟩ := q_1200; replace e_h := e_h.symm; subst e_h
                refine r_lload (pc := 1203) dL_law_1203 rfl ?_
                refine r_lcmp (pc := 1205) dL_law_1205 ?_
                rw [hsg, lcmp_self]
                refine rj_if_ne (pc := 1206) (tgt := 1213) dL_law_1206 (by decide) (by first | exact b01_r | exact bz_r | omega | (constructor <;> omega) | apply_assumption | (apply atF_r; assumption) | fail "no range") (fun c_1206 => ?_) (fun c_1206 => ?_)
                · try simp only [b01_0, bz_0, Classical.not_not] at c_1206
                  exfalso; first | omega | contradiction | (simp at *; done) | (simp at *; omega)
                · try simp only [b01_0, bz_0, Classical.not_not] at c_1206
                  refine rj_iconst (pc := 1209) dL_law_1209 ?_
                  refine r_goto (pc := 1210) (tgt := 1214) dL_law_1210 (by decide) ?_
                  refine rj_and1 (pc := 1214) dL_law_1214 ?_
                  refine r_istore_n (pc := 1215) dL_law_1215 (Nat.le_of_ble_eq_true rfl) ?_
                  dsimp only [lsSt, List.set, mLs, mEnt]
                  exact K _ _ _ _ _ _ _ 0 _ _ _ _ _ hI hj (by omega) GRW.rf (by constructor <;> omega) (Or.inl (Int.le_refl _))
          · exfalso; first | omega | contradiction | (simp at *; done)
      · try simp only [b01_0, bz_0, Classical.not_not] at c_1150
        refine rj_iconst (pc := 1153) dL_law_1153 ?_
        refine r_goto (pc := 1154) (tgt := 1158) dL_law_1154 (by decide) ?_
        refine rj_icmp_ne (pc := 1158) (tgt := 1213) dL_law_1158 (by decide) (by first | exact b01_r | exact bz_r | omega | (constructor <;> omega) | apply_assumption | (apply atF_r; assumption) | fail "no range") (by first | exact b01_r | exact bz_r | omega | (constructor <;> omega) | apply_assumption | (apply atF_r; assumption) | fail "no range") (fun c_1158 => ?_) (fun c_1158 => ?_)
        · exfalso; first | omega | contradiction | (simp at *; done) | (simp at *; omega)
        · refine r_iload (pc := 1161) dL_law_1161 rfl ?_
          refine rj_if_lt (pc := 1163) (tgt := 1176) dL_law_1163 (by decide) (by first | exact b01_r | exact bz_r | omega | (constructor <;> omega) | apply_assumption | (apply atF_r; assumption) | fail "no range") (fun c_1163 => ?_) (fun c_1163 => ?_)
          · refine r_aload_n (pc := 1176) dL_law_1176 rfl (by first | rfl | exact isRefV_rf _) ?_
            refine r_iload (pc := 1177) dL_law_1177 rfl ?_
            refine rj_iconst (pc := 1179) dL_law_1179 ?_
            refine r_callV2 (pc := 1180) dL_law_1180 qX10_below kL_163 vX10_below ho rfl rfl (Nat.le_of_ble_eq_true rfl) ((oa_below hI (a := s) (by constructor <;> omega) (i := 0) (by constructor <;> omega)).deeper (Nat.le_of_ble_eq_true rfl)) (fun v_1180 h_1180 q_1180 => ?_)
            obtain ⟨rfl, e_h⟩ := q_1180; replace e_h := e_h.symm; subst e_h
            rw [below_root hsc hs]
            refine rj_iconst (pc := 1183) dL_law_1183 ?_
            refine rj_icmp_ne (pc := 1184) (tgt := 1213) dL_law_1184 (by decide) (by first | exact b01_r | exact bz_r | omega | (constructor <;> omega) | apply_assumption | (apply atF_r; assumption) | fail "no range") (by first | exact b01_r | exact bz_r | omega | (constructor <;> omega) | apply_assumption | (apply atF_r; assumption) | fail "no range") (fun c_1184 => ?_) (fun c_1184 => ?_)
            · exfalso; first | omega | contradiction | (simp at *; done) | (simp at *; omega)
            · refine r_aload_n (pc := 1187) dL_law_1187 rfl (by first | rfl | exact isRefV_rf _) ?_
              refine r_iload (pc := 1188) dL_law_1188 rfl ?_
              refine r_iload (pc := 1190) dL_law_1190 rfl ?_
              refine r_callV2 (pc := 1192) dL_law_1192 qX10_below kL_163 vX10_below ho rfl rfl (Nat.le_of_ble_eq_true rfl) ((oa_below hI (a := s) (by constructor <;> omega) (i := s) (by constructor <;> omega)).deeper (Nat.le_of_ble_eq_true rfl)) (fun v_1192 h_1192 q_1192 => ?_)
              obtain ⟨rfl, e_h⟩ := q_1192; replace e_h := e_h.symm; subst e_h
              rw [below_self hs]
              refine rj_iconst (pc := 1195) dL_law_1195 ?_
              refine rj_icmp_ne (pc := 1196) (tgt := 1213) dL_law_1196 (by decide) (by first | exact b01_r | exact bz_r | omega | (constructor <;> omega) | apply_assumption | (apply atF_r; assumption) | fail "no range") (by first | exact b01_r | exact bz_r | omega | (constructor <;> omega) | apply_assumption | (apply atF_r; assumption) | fail "no range") (fun c_1196 => ?_) (fun c_1196 => ?_)
              · exfalso; first | omega | contradiction | (simp at *; done) | (simp at *; omega)
              · refine r_aload_n (pc := 1199) dL_law_1199 rfl (by first | rfl | exact isRefV_rf _) ?_
                refine r_callS1 (pc := 1200) dL_law_1200 qL_sight kL_94 sL_sight (Nat.le_of_ble_eq_true rfl) ((jl_sight hI).deeper (Nat.le_of_ble_eq_true rfl)) (fun v_1200 h_1200 q_1200 => ?_)
                obtain ⟨rfl, e_h⟩ := q_1200; replace e_h := e_h.symm; subst e_h
                refine r_lload (pc := 1203) dL_law_1203 rfl ?_
                refine r_lcmp (pc := 1205) dL_law_1205 ?_
                rw [hsg, lcmp_self]
                refine rj_if_ne (pc := 1206) (tgt := 1213) dL_law_1206 (by decide) (by first | exact b01_r | exact bz_r | omega | (constructor <;> omega) | apply_assumption | (apply atF_r; assumption) | fail "no range") (fun c_1206 => ?_) (fun c_1206 => ?_)
                · try simp only [b01_0, bz_0, Classical.not_not] at c_1206
                  exfalso; first | omega | contradiction | (simp at *; done) | (simp at *; omega)
                · try simp only [b01_0, bz_0, Classical.not_not] at c_1206
                  refine rj_iconst (pc := 1209) dL_law_1209 ?_
                  refine r_goto (pc := 1210) (tgt := 1214) dL_law_1210 (by decide) ?_
                  refine rj_and1 (pc := 1214) dL_law_1214 ?_
                  refine r_istore_n (pc := 1215) dL_law_1215 (Nat.le_of_ble_eq_true rfl) ?_
                  dsimp only [lsSt, List.set, mLs, mEnt]
                  exact K _ _ _ _ _ _ _ 0 _ _ _ _ _ hI hj (by omega) GRW.rf (by constructor <;> omega) (Or.inl (Int.le_refl _))
          · exfalso; first | omega | contradiction | (simp at *; done)
    · refine rj_iconst (pc := 1138) dL_law_1138 ?_
      refine r_goto (pc := 1139) (tgt := 1143) dL_law_1139 (by decide) ?_
      refine r_aload_n (pc := 1143) dL_law_1143 rfl (by first | rfl | exact isRefV_rf _) ?_
      refine r_iload (pc := 1144) dL_law_1144 rfl ?_
      refine rj_iconst (pc := 1146) dL_law_1146 ?_
      refine r_callV2 (pc := 1147) dL_law_1147 qX10_scope kL_57 vX10_scope ho rfl rfl (Nat.le_of_ble_eq_true rfl) ((oa_scope hI (a := s) (by constructor <;> omega) (i := 3) (by constructor <;> omega)).deeper (Nat.le_of_ble_eq_true rfl)) (fun v_1147 h_1147 q_1147 => ?_)
      obtain ⟨rfl, e_h⟩ := q_1147; replace e_h := e_h.symm; subst e_h
      rw [s3]
      refine rj_if_ne (pc := 1150) (tgt := 1157) dL_law_1150 (by decide) (by first | exact b01_r | exact bz_r | omega | (constructor <;> omega) | apply_assumption | (apply atF_r; assumption) | fail "no range") (fun c_1150 => ?_) (fun c_1150 => ?_)
      · try simp only [b01_0, bz_0, Classical.not_not] at c_1150
        refine rj_iconst (pc := 1157) dL_law_1157 ?_
        refine rj_icmp_ne (pc := 1158) (tgt := 1213) dL_law_1158 (by decide) (by first | exact b01_r | exact bz_r | omega | (constructor <;> omega) | apply_assumption | (apply atF_r; assumption) | fail "no range") (by first | exact b01_r | exact bz_r | omega | (constructor <;> omega) | apply_assumption | (apply atF_r; assumption) | fail "no range") (fun c_1158 => ?_) (fun c_1158 => ?_)
        · exfalso; first | omega | contradiction | (simp at *; done) | (simp at *; omega)
        · refine r_iload (pc := 1161) dL_law_1161 rfl ?_
          refine rj_if_lt (pc := 1163) (tgt := 1176) dL_law_1163 (by decide) (by first | exact b01_r | exact bz_r | omega | (constructor <;> omega) | apply_assumption | (apply atF_r; assumption) | fail "no range") (fun c_1163 => ?_) (fun c_1163 => ?_)
          · refine r_aload_n (pc := 1176) dL_law_1176 rfl (by first | rfl | exact isRefV_rf _) ?_
            refine r_iload (pc := 1177) dL_law_1177 rfl ?_
            refine rj_iconst (pc := 1179) dL_law_1179 ?_
            refine r_callV2 (pc := 1180) dL_law_1180 qX10_below kL_163 vX10_below ho rfl rfl (Nat.le_of_ble_eq_true rfl) ((oa_below hI (a := s) (by constructor <;> omega) (i := 0) (by constructor <;> omega)).deeper (Nat.le_of_ble_eq_true rfl)) (fun v_1180 h_1180 q_1180 => ?_)
            obtain ⟨rfl, e_h⟩ := q_1180; replace e_h := e_h.symm; subst e_h
            rw [below_root hsc hs]
            refine rj_iconst (pc := 1183) dL_law_1183 ?_
            refine rj_icmp_ne (pc := 1184) (tgt := 1213) dL_law_1184 (by decide) (by first | exact b01_r | exact bz_r | omega | (constructor <;> omega) | apply_assumption | (apply atF_r; assumption) | fail "no range") (by first | exact b01_r | exact bz_r | omega | (constructor <;> omega) | apply_assumption | (apply atF_r; assumption) | fail "no range") (fun c_1184 => ?_) (fun c_1184 => ?_)
            · exfalso; first | omega | contradiction | (simp at *; done) | (simp at *; omega)
            · refine r_aload_n (pc := 1187) dL_law_1187 rfl (by first | rfl | exact isRefV_rf _) ?_
              refine r_iload (pc := 1188) dL_law_1188 rfl ?_
              refine r_iload (pc := 1190) dL_law_1190 rfl ?_
              refine r_callV2 (pc := 1192) dL_law_1192 qX10_below kL_163 vX10_below ho rfl rfl (Nat.le_of_ble_eq_true rfl) ((oa_below hI (a := s) (by constructor <;> omega) (i := s) (by constructor <;> omega)).deeper (Nat.le_of_ble_eq_true rfl)) (fun v_1192 h_1192 q_1192 => ?_)
              obtain ⟨rfl, e_h⟩ := q_1192; replace e_h := e_h.symm; subst e_h
              rw [below_self hs]
              refine rj_iconst (pc := 1195) dL_law_1195 ?_
              refine rj_icmp_ne (pc := 1196) (tgt := 1213) dL_law_1196 (by decide) (by first | exact b01_r | exact bz_r | omega | (constructor <;> omega) | apply_assumption | (apply atF_r; assumption) | fail "no range") (by first | exact b01_r | exact bz_r | omega | (constructor <;> omega) | apply_assumption | (apply atF_r; assumption) | fail "no range") (fun c_1196 => ?_) (fun c_1196 => ?_)
              · exfalso; first | omega | contradiction | (simp at *; done) | (simp at *; omega)
              · refine r_aload_n (pc := 1199) dL_law_1199 rfl (by first | rfl | exact isRefV_rf _) ?_
                refine r_callS1 (pc := 1200) dL_law_1200 qL_sight kL_94 sL_sight (Nat.le_of_ble_eq_true rfl) ((jl_sight hI).deeper (Nat.le_of_ble_eq_true rfl)) (fun v_1200 h_1200 q_1200 => ?_)
                obtain ⟨rfl, e_h⟩ := q_1200; replace e_h := e_h.symm; subst e_h
                refine r_lload (pc := 1203) dL_law_1203 rfl ?_
                refine r_lcmp (pc := 1205) dL_law_1205 ?_
                rw [hsg, lcmp_self]
                refine rj_if_ne (pc := 1206) (tgt := 1213) dL_law_1206 (by decide) (by first | exact b01_r | exact bz_r | omega | (constructor <;> omega) | apply_assumption | (apply atF_r; assumption) | fail "no range") (fun c_1206 => ?_) (fun c_1206 => ?_)
                · try simp only [b01_0, bz_0, Classical.not_not] at c_1206
                  exfalso; first | omega | contradiction | (simp at *; done) | (simp at *; omega)
                · try simp only [b01_0, bz_0, Classical.not_not] at c_1206
                  refine rj_iconst (pc := 1209) dL_law_1209 ?_
                  refine r_goto (pc := 1210) (tgt := 1214) dL_law_1210 (by decide) ?_
                  refine rj_and1 (pc := 1214) dL_law_1214 ?_
                  refine r_istore_n (pc := 1215) dL_law_1215 (Nat.le_of_ble_eq_true rfl) ?_
                  dsimp only [lsSt, List.set, mLs, mEnt]
                  exact K _ _ _ _ _ _ _ 0 _ _ _ _ _ hI hj (by omega) GRW.rf (by constructor <;> omega) (Or.inl (Int.le_refl _))
          · exfalso; first | omega | contradiction | (simp at *; done)
      · try simp only [b01_0, bz_0, Classical.not_not] at c_1150
        refine rj_iconst (pc := 1153) dL_law_1153 ?_
        refine r_goto (pc := 1154) (tgt := 1158) dL_law_1154 (by decide) ?_
        refine rj_icmp_ne (pc := 1158) (tgt := 1213) dL_law_1158 (by decide) (by first | exact b01_r | exact bz_r | omega | (constructor <;> omega) | apply_assumption | (apply atF_r; assumption) | fail "no range") (by first | exact b01_r | exact bz_r | omega | (constructor <;> omega) | apply_assumption | (apply atF_r; assumption) | fail "no range") (fun c_1158 => ?_) (fun c_1158 => ?_)
        · exfalso; first | omega | contradiction | (simp at *; done) | (simp at *; omega)
        · refine r_iload (pc := 1161) dL_law_1161 rfl ?_
          refine rj_if_lt (pc := 1163) (tgt := 1176) dL_law_1163 (by decide) (by first | exact b01_r | exact bz_r | omega | (constructor <;> omega) | apply_assumption | (apply atF_r; assumption) | fail "no range") (fun c_1163 => ?_) (fun c_1163 => ?_)
          · refine r_aload_n (pc := 1176) dL_law_1176 rfl (by first | rfl | exact isRefV_rf _) ?_
            refine r_iload (pc := 1177) dL_law_1177 rfl ?_
            refine rj_iconst (pc := 1179) dL_law_1179 ?_
            refine r_callV2 (pc := 1180) dL_law_1180 qX10_below kL_163 vX10_below ho rfl rfl (Nat.le_of_ble_eq_true rfl) ((oa_below hI (a := s) (by constructor <;> omega) (i := 0) (by constructor <;> omega)).deeper (Nat.le_of_ble_eq_true rfl)) (fun v_1180 h_1180 q_1180 => ?_)
            obtain ⟨rfl, e_h⟩ := q_1180; replace e_h := e_h.symm; subst e_h
            rw [below_root hsc hs]
            refine rj_iconst (pc := 1183) dL_law_1183 ?_
            refine rj_icmp_ne (pc := 1184) (tgt := 1213) dL_law_1184 (by decide) (by first | exact b01_r | exact bz_r | omega | (constructor <;> omega) | apply_assumption | (apply atF_r; assumption) | fail "no range") (by first | exact b01_r | exact bz_r | omega | (constructor <;> omega) | apply_assumption | (apply atF_r; assumption) | fail "no range") (fun c_1184 => ?_) (fun c_1184 => ?_)
            · exfalso; first | omega | contradiction | (simp at *; done) | (simp at *; omega)
            · refine r_aload_n (pc := 1187) dL_law_1187 rfl (by first | rfl | exact isRefV_rf _) ?_
              refine r_iload (pc := 1188) dL_law_1188 rfl ?_
              refine r_iload (pc := 1190) dL_law_1190 rfl ?_
              refine r_callV2 (pc := 1192) dL_law_1192 qX10_below kL_163 vX10_below ho rfl rfl (Nat.le_of_ble_eq_true rfl) ((oa_below hI (a := s) (by constructor <;> omega) (i := s) (by constructor <;> omega)).deeper (Nat.le_of_ble_eq_true rfl)) (fun v_1192 h_1192 q_1192 => ?_)
              obtain ⟨rfl, e_h⟩ := q_1192; replace e_h := e_h.symm; subst e_h
              rw [below_self hs]
              refine rj_iconst (pc := 1195) dL_law_1195 ?_
              refine rj_icmp_ne (pc := 1196) (tgt := 1213) dL_law_1196 (by decide) (by first | exact b01_r | exact bz_r | omega | (constructor <;> omega) | apply_assumption | (apply atF_r; assumption) | fail "no range") (by first | exact b01_r | exact bz_r | omega | (constructor <;> omega) | apply_assumption | (apply atF_r; assumption) | fail "no range") (fun c_1196 => ?_) (fun c_1196 => ?_)
              · exfalso; first | omega | contradiction | (simp at *; done) | (simp at *; omega)
              · refine r_aload_n (pc := 1199) dL_law_1199 rfl (by first | rfl | exact isRefV_rf _) ?_
                refine r_callS1 (pc := 1200) dL_law_1200 qL_sight kL_94 sL_sight (Nat.le_of_ble_eq_true rfl) ((jl_sight hI).deeper (Nat.le_of_ble_eq_true rfl)) (fun v_1200 h_1200 q_1200 => ?_)
                obtain ⟨rfl, e_h⟩ := q_1200; replace e_h := e_h.symm; subst e_h
                refine r_lload (pc := 1203) dL_law_1203 rfl ?_
                refine r_lcmp (pc := 1205) dL_law_1205 ?_
                rw [hsg, lcmp_self]
                refine rj_if_ne (pc := 1206) (tgt := 1213) dL_law_1206 (by decide) (by first | exact b01_r | exact bz_r | omega | (constructor <;> omega) | apply_assumption | (apply atF_r; assumption) | fail "no range") (fun c_1206 => ?_) (fun c_1206 => ?_)
                · try simp only [b01_0, bz_0, Classical.not_not] at c_1206
                  exfalso; first | omega | contradiction | (simp at *; done) | (simp at *; omega)
                · try simp only [b01_0, bz_0, Classical.not_not] at c_1206
                  refine rj_iconst (pc := 1209) dL_law_1209 ?_
                  refine r_goto (pc := 1210) (tgt := 1214) dL_law_1210 (by decide) ?_
                  refine rj_and1 (pc := 1214) dL_law_1214 ?_
                  refine r_istore_n (pc := 1215) dL_law_1215 (Nat.le_of_ble_eq_true rfl) ?_
                  dsimp only [lsSt, List.set, mLs, mEnt]
                  exact K _ _ _ _ _ _ _ 0 _ _ _ _ _ hI hj (by omega) GRW.rf (by constructor <;> omega) (Or.inl (Int.le_refl _))
          · exfalso; first | omega | contradiction | (simp at *; done)
  · have t0 : thgV m (yq : Int) 0 = 0 := by
      unfold thgV
      rw [if_pos ⟨by omega, by omega⟩, if_pos rfl, show ((yq : Int)).toNat = yq by omega, if_pos yq2]
    refine r_istore (pc := 1128) dL_law_1128 (Nat.le_of_ble_eq_true rfl) ?_
    dsimp only [lsSt, List.set, mLs, mEnt]
    refine r_iload_n (pc := 1130) dL_law_1130 rfl ?_
    refine r_iload (pc := 1131) dL_law_1131 rfl ?_
    refine rj_bipush (pc := 1133) dL_law_1133 (by decide +kernel) ?_
    refine rj_icmp_ne (pc := 1135) (tgt := 1142) dL_law_1135 (by decide) (by first | exact b01_r | exact bz_r | omega | (constructor <;> omega) | apply_assumption | (apply atF_r; assumption) | fail "no range") (by first | exact b01_r | exact bz_r | omega | (constructor <;> omega) | apply_assumption | (apply atF_r; assumption) | fail "no range") (fun c_1135 => ?_) (fun c_1135 => ?_)
    · refine rj_iconst (pc := 1142) dL_law_1142 ?_
      refine r_aload_n (pc := 1143) dL_law_1143 rfl (by first | rfl | exact isRefV_rf _) ?_
      refine r_iload (pc := 1144) dL_law_1144 rfl ?_
      refine rj_iconst (pc := 1146) dL_law_1146 ?_
      refine r_callV2 (pc := 1147) dL_law_1147 qX10_scope kL_57 vX10_scope ho rfl rfl (Nat.le_of_ble_eq_true rfl) ((oa_scope hI (a := s) (by constructor <;> omega) (i := 3) (by constructor <;> omega)).deeper (Nat.le_of_ble_eq_true rfl)) (fun v_1147 h_1147 q_1147 => ?_)
      obtain ⟨rfl, e_h⟩ := q_1147; replace e_h := e_h.symm; subst e_h
      rw [s3]
      refine rj_if_ne (pc := 1150) (tgt := 1157) dL_law_1150 (by decide) (by first | exact b01_r | exact bz_r | omega | (constructor <;> omega) | apply_assumption | (apply atF_r; assumption) | fail "no range") (fun c_1150 => ?_) (fun c_1150 => ?_)
      · try simp only [b01_0, bz_0, Classical.not_not] at c_1150
        refine rj_iconst (pc := 1157) dL_law_1157 ?_
        refine rj_icmp_ne (pc := 1158) (tgt := 1213) dL_law_1158 (by decide) (by first | exact b01_r | exact bz_r | omega | (constructor <;> omega) | apply_assumption | (apply atF_r; assumption) | fail "no range") (by first | exact b01_r | exact bz_r | omega | (constructor <;> omega) | apply_assumption | (apply atF_r; assumption) | fail "no range") (fun c_1158 => ?_) (fun c_1158 => ?_)
        · exfalso; first | omega | contradiction | (simp at *; done) | (simp at *; omega)
        · refine r_iload (pc := 1161) dL_law_1161 rfl ?_
          refine rj_if_lt (pc := 1163) (tgt := 1176) dL_law_1163 (by decide) (by first | exact b01_r | exact bz_r | omega | (constructor <;> omega) | apply_assumption | (apply atF_r; assumption) | fail "no range") (fun c_1163 => ?_) (fun c_1163 => ?_)
          · refine r_aload_n (pc := 1176) dL_law_1176 rfl (by first | rfl | exact isRefV_rf _) ?_
            refine r_iload (pc := 1177) dL_law_1177 rfl ?_
            refine rj_iconst (pc := 1179) dL_law_1179 ?_
            refine r_callV2 (pc := 1180) dL_law_1180 qX10_below kL_163 vX10_below ho rfl rfl (Nat.le_of_ble_eq_true rfl) ((oa_below hI (a := s) (by constructor <;> omega) (i := 0) (by constructor <;> omega)).deeper (Nat.le_of_ble_eq_true rfl)) (fun v_1180 h_1180 q_1180 => ?_)
            obtain ⟨rfl, e_h⟩ := q_1180; replace e_h := e_h.symm; subst e_h
            rw [below_root hsc hs]
            refine rj_iconst (pc := 1183) dL_law_1183 ?_
            refine rj_icmp_ne (pc := 1184) (tgt := 1213) dL_law_1184 (by decide) (by first | exact b01_r | exact bz_r | omega | (constructor <;> omega) | apply_assumption | (apply atF_r; assumption) | fail "no range") (by first | exact b01_r | exact bz_r | omega | (constructor <;> omega) | apply_assumption | (apply atF_r; assumption) | fail "no range") (fun c_1184 => ?_) (fun c_1184 => ?_)
            · exfalso; first | omega | contradiction | (simp at *; done) | (simp at *; omega)
            · refine r_aload_n (pc := 1187) dL_law_1187 rfl (by first | rfl | exact isRefV_rf _) ?_
              refine r_iload (pc := 1188) dL_law_1188 rfl ?_
              refine r_iload (pc := 1190) dL_law_1190 rfl ?_
              refine r_callV2 (pc := 1192) dL_law_1192 qX10_below kL_163 vX10_below ho rfl rfl (Nat.le_of_ble_eq_true rfl) ((oa_below hI (a := s) (by constructor <;> omega) (i := s) (by constructor <;> omega)).deeper (Nat.le_of_ble_eq_true rfl)) (fun v_1192 h_1192 q_1192 => ?_)
              obtain ⟨rfl, e_h⟩ := q_1192; replace e_h := e_h.symm; subst e_h
              rw [below_self hs]
              refine rj_iconst (pc := 1195) dL_law_1195 ?_
              refine rj_icmp_ne (pc := 1196) (tgt := 1213) dL_law_1196 (by decide) (by first | exact b01_r | exact bz_r | omega | (constructor <;> omega) | apply_assumption | (apply atF_r; assumption) | fail "no range") (by first | exact b01_r | exact bz_r | omega | (constructor <;> omega) | apply_assumption | (apply atF_r; assumption) | fail "no range") (fun c_1196 => ?_) (fun c_1196 => ?_)
              · exfalso; first | omega | contradiction | (simp at *; done) | (simp at *; omega)
              · refine r_aload_n (pc := 1199) dL_law_1199 rfl (by first | rfl | exact isRefV_rf _) ?_
                refine r_callS1 (pc := 1200) dL_law_1200 qL_sight kL_94 sL_sight (Nat.le_of_ble_eq_true rfl) ((jl_sight hI).deeper (Nat.le_of_ble_eq_true rfl)) (fun v_1200 h_1200 q_1200 => ?_)
                obtain ⟨rfl, e_h⟩ := q_1200; replace e_h := e_h.symm; subst e_h
                refine r_lload (pc := 1203) dL_law_1203 rfl ?_
                refine r_lcmp (pc := 1205) dL_law_1205 ?_
                rw [hsg, lcmp_self]
                refine rj_if_ne (pc := 1206) (tgt := 1213) dL_law_1206 (by decide) (by first | exact b01_r | exact bz_r | omega | (constructor <;> omega) | apply_assumption | (apply atF_r; assumption) | fail "no range") (fun c_1206 => ?_) (fun c_1206 => ?_)
                · try simp only [b01_0, bz_0, Classical.not_not] at c_1206
                  exfalso; first | omega | contradiction | (simp at *; done) | (simp at *; omega)
                · try simp only [b01_0, bz_0, Classical.not_not] at c_1206
                  refine rj_iconst (pc := 1209) dL_law_1209 ?_
                  refine r_goto (pc := 1210) (tgt := 1214) dL_law_1210 (by decide) ?_
                  refine rj_and1 (pc := 1214) dL_law_1214 ?_
                  refine r_istore_n (pc := 1215) dL_law_1215 (Nat.le_of_ble_eq_true rfl) ?_
                  dsimp only [lsSt, List.set, mLs, mEnt]
                  exact K _ _ _ _ _ _ _ 0 _ _ _ _ _ hI hj (by omega) GRW.rf (by constructor <;> omega) (Or.inl (Int.le_refl _))
          · refine r_aload_n (pc := 1166) dL_law_1166 rfl (by first | rfl | exact isRefV_rf _) ?_
            refine r_iload (pc := 1167) dL_law_1167 rfl ?_
            refine rj_iconst (pc := 1169) dL_law_1169 ?_
            refine r_callV2 (pc := 1170) dL_law_1170 qX10_thing kL_53 vX10_thing ho rfl rfl (Nat.le_of_ble_eq_true rfl) ((oa_thing hI (a := (yq : Int)) (by constructor <;> omega) (i := 0) (by omega)).deeper (Nat.le_of_ble_eq_true rfl)) (fun v_1170 h_1170 q_1170 => ?_)
            obtain ⟨rfl, e_h⟩ := q_1170; replace e_h := e_h.symm; subst e_h
            rw [t0]
            refine rj_if_ne (pc := 1173) (tgt := 1213) dL_law_1173 (by decide) (by first | exact b01_r | exact bz_r | omega | (constructor <;> omega) | apply_assumption | (apply atF_r; assumption) | fail "no range") (fun c_1173 => ?_) (fun c_1173 => ?_)
            · try simp only [b01_0, bz_0, Classical.not_not] at c_1173
              exfalso; first | omega | contradiction | (simp at *; done) | (simp at *; omega)
            · try simp only [b01_0, bz_0, Classical.not_not] at c_1173
              refine r_aload_n (pc := 1176) dL_law_1176 rfl (by first | rfl | exact isRefV_rf _) ?_
              refine r_iload (pc := 1177) dL_law_1177 rfl ?_
              refine rj_iconst (pc := 1179) dL_law_1179 ?_
              refine r_callV2 (pc := 1180) dL_law_1180 qX10_below kL_163 vX10_below ho rfl rfl (Nat.le_of_ble_eq_true rfl) ((oa_below hI (a := s) (by constructor <;> omega) (i := 0) (by constructor <;> omega)).deeper (Nat.le_of_ble_eq_true rfl)) (fun v_1180 h_1180 q_1180 => ?_)
              obtain ⟨rfl, e_h⟩ := q_1180; replace e_h := e_h.symm; subst e_h
              rw [below_root hsc hs]
              refine rj_iconst (pc := 1183) dL_law_1183 ?_
              refine rj_icmp_ne (pc := 1184) (tgt := 1213) dL_law_1184 (by decide) (by first | exact b01_r | exact bz_r | omega | (constructor <;> omega) | apply_assumption | (apply atF_r; assumption) | fail "no range") (by first | exact b01_r | exact bz_r | omega | (constructor <;> omega) | apply_assumption | (apply atF_r; assumption) | fail "no range") (fun c_1184 => ?_) (fun c_1184 => ?_)
              · exfalso; first | omega | contradiction | (simp at *; done) | (simp at *; omega)
              · refine r_aload_n (pc := 1187) dL_law_1187 rfl (by first | rfl | exact isRefV_rf _) ?_
                refine r_iload (pc := 1188) dL_law_1188 rfl ?_
                refine r_iload (pc := 1190) dL_law_1190 rfl ?_
                refine r_callV2 (pc := 1192) dL_law_1192 qX10_below kL_163 vX10_below ho rfl rfl (Nat.le_of_ble_eq_true rfl) ((oa_below hI (a := s) (by constructor <;> omega) (i := s) (by constructor <;> omega)).deeper (Nat.le_of_ble_eq_true rfl)) (fun v_1192 h_1192 q_1192 => ?_)
                obtain ⟨rfl, e_h⟩ := q_1192; replace e_h := e_h.symm; subst e_h
                rw [below_self hs]
                refine rj_iconst (pc := 1195) dL_law_1195 ?_
                refine rj_icmp_ne (pc := 1196) (tgt := 1213) dL_law_1196 (by decide) (by first | exact b01_r | exact bz_r | omega | (constructor <;> omega) | apply_assumption | (apply atF_r; assumption) | fail "no range") (by first | exact b01_r | exact bz_r | omega | (constructor <;> omega) | apply_assumption | (apply atF_r; assumption) | fail "no range") (fun c_1196 => ?_) (fun c_1196 => ?_)
                · exfalso; first | omega | contradiction | (simp at *; done) | (simp at *; omega)
                · refine r_aload_n (pc := 1199) dL_law_1199 rfl (by first | rfl | exact isRefV_rf _) ?_
                  refine r_callS1 (pc := 1200) dL_law_1200 qL_sight kL_94 sL_sight (Nat.le_of_ble_eq_true rfl) ((jl_sight hI).deeper (Nat.le_of_ble_eq_true rfl)) (fun v_1200 h_1200 q_1200 => ?_)
                  obtain ⟨rfl, e_h⟩ := q_1200; replace e_h := e_h.symm; subst e_h
                  refine r_lload (pc := 1203) dL_law_1203 rfl ?_
                  refine r_lcmp (pc := 1205) dL_law_1205 ?_
                  rw [hsg, lcmp_self]
                  refine rj_if_ne (pc := 1206) (tgt := 1213) dL_law_1206 (by decide) (by first | exact b01_r | exact bz_r | omega | (constructor <;> omega) | apply_assumption | (apply atF_r; assumption) | fail "no range") (fun c_1206 => ?_) (fun c_1206 => ?_)
                  · try simp only [b01_0, bz_0, Classical.not_not] at c_1206
                    exfalso; first | omega | contradiction | (simp at *; done) | (simp at *; omega)
                  · try simp only [b01_0, bz_0, Classical.not_not] at c_1206
                    refine rj_iconst (pc := 1209) dL_law_1209 ?_
                    refine r_goto (pc := 1210) (tgt := 1214) dL_law_1210 (by decide) ?_
                    refine rj_and1 (pc := 1214) dL_law_1214 ?_
                    refine r_istore_n (pc := 1215) dL_law_1215 (Nat.le_of_ble_eq_true rfl) ?_
                    dsimp only [lsSt, List.set, mLs, mEnt]
                    exact K _ _ _ _ _ _ _ 0 _ _ _ _ _ hI hj (by omega) GRW.rf (by constructor <;> omega) (Or.inl (Int.le_refl _))
      · try simp only [b01_0, bz_0, Classical.not_not] at c_1150
        refine rj_iconst (pc := 1153) dL_law_1153 ?_
        refine r_goto (pc := 1154) (tgt := 1158) dL_law_1154 (by decide) ?_
        refine rj_icmp_ne (pc := 1158) (tgt := 1213) dL_law_1158 (by decide) (by first | exact b01_r | exact bz_r | omega | (constructor <;> omega) | apply_assumption | (apply atF_r; assumption) | fail "no range") (by first | exact b01_r | exact bz_r | omega | (constructor <;> omega) | apply_assumption | (apply atF_r; assumption) | fail "no range") (fun c_1158 => ?_) (fun c_1158 => ?_)
        · exfalso; first | omega | contradiction | (simp at *; done) | (simp at *; omega)
        · refine r_iload (pc := 1161) dL_law_1161 rfl ?_
          refine rj_if_lt (pc := 1163) (tgt := 1176) dL_law_1163 (by decide) (by first | exact b01_r | exact bz_r | omega | (constructor <;> omega) | apply_assumption | (apply atF_r; assumption) | fail "no range") (fun c_1163 => ?_) (fun c_1163 => ?_)
          · refine r_aload_n (pc := 1176) dL_law_1176 rfl (by first | rfl | exact isRefV_rf _) ?_
            refine r_iload (pc := 1177) dL_law_1177 rfl ?_
            refine rj_iconst (pc := 1179) dL_law_1179 ?_
            refine r_callV2 (pc := 1180) dL_law_1180 qX10_below kL_163 vX10_below ho rfl rfl (Nat.le_of_ble_eq_true rfl) ((oa_below hI (a := s) (by constructor <;> omega) (i := 0) (by constructor <;> omega)).deeper (Nat.le_of_ble_eq_true rfl)) (fun v_1180 h_1180 q_1180 => ?_)
            obtain ⟨rfl, e_h⟩ := q_1180; replace e_h := e_h.symm; subst e_h
            rw [below_root hsc hs]
            refine rj_iconst (pc := 1183) dL_law_1183 ?_
            refine rj_icmp_ne (pc := 1184) (tgt := 1213) dL_law_1184 (by decide) (by first | exact b01_r | exact bz_r | omega | (constructor <;> omega) | apply_assumption | (apply atF_r; assumption) | fail "no range") (by first | exact b01_r | exact bz_r | omega | (constructor <;> omega) | apply_assumption | (apply atF_r; assumption) | fail "no range") (fun c_1184 => ?_) (fun c_1184 => ?_)
            · exfalso; first | omega | contradiction | (simp at *; done) | (simp at *; omega)
            · refine r_aload_n (pc := 1187) dL_law_1187 rfl (by first | rfl | exact isRefV_rf _) ?_
              refine r_iload (pc := 1188) dL_law_1188 rfl ?_
              refine r_iload (pc := 1190) dL_law_1190 rfl ?_
              refine r_callV2 (pc := 1192) dL_law_1192 qX10_below kL_163 vX10_below ho rfl rfl (Nat.le_of_ble_eq_true rfl) ((oa_below hI (a := s) (by constructor <;> omega) (i := s) (by constructor <;> omega)).deeper (Nat.le_of_ble_eq_true rfl)) (fun v_1192 h_1192 q_1192 => ?_)
              obtain ⟨rfl, e_h⟩ := q_1192; replace e_h := e_h.symm; subst e_h
              rw [below_self hs]
              refine rj_iconst (pc := 1195) dL_law_1195 ?_
              refine rj_icmp_ne (pc := 1196) (tgt := 1213) dL_law_1196 (by decide) (by first | exact b01_r | exact bz_r | omega | (constructor <;> omega) | apply_assumption | (apply atF_r; assumption) | fail "no range") (by first | exact b01_r | exact bz_r | omega | (constructor <;> omega) | apply_assumption | (apply atF_r; assumption) | fail "no range") (fun c_1196 => ?_) (fun c_1196 => ?_)
              · exfalso; first | omega | contradiction | (simp at *; done) | (simp at *; omega)
              · refine r_aload_n (pc := 1199) dL_law_1199 rfl (by first | rfl | exact isRefV_rf _) ?_
                refine r_callS1 (pc := 1200) dL_law_1200 qL_sight kL_94 sL_sight (Nat.le_of_ble_eq_true rfl) ((jl_sight hI).deeper (Nat.le_of_ble_eq_true rfl)) (fun v_1200 h_1200 q_1200 => ?_)
                obtain ⟨rfl, e_h⟩ := q_1200; replace e_h := e_h.symm; subst e_h
                refine r_lload (pc := 1203) dL_law_1203 rfl ?_
                refine r_lcmp (pc := 1205) dL_law_1205 ?_
                rw [hsg, lcmp_self]
                refine rj_if_ne (pc := 1206) (tgt := 1213) dL_law_1206 (by decide) (by first | exact b01_r | exact bz_r | omega | (constructor <;> omega) | apply_assumption | (apply atF_r; assumption) | fail "no range") (fun c_1206 => ?_) (fun c_1206 => ?_)
                · try simp only [b01_0, bz_0, Classical.not_not] at c_1206
                  exfalso; first | omega | contradiction | (simp at *; done) | (simp at *; omega)
                · try simp only [b01_0, bz_0, Classical.not_not] at c_1206
                  refine rj_iconst (pc := 1209) dL_law_1209 ?_
                  refine r_goto (pc := 1210) (tgt := 1214) dL_law_1210 (by decide) ?_
                  refine rj_and1 (pc := 1214) dL_law_1214 ?_
                  refine r_istore_n (pc := 1215) dL_law_1215 (Nat.le_of_ble_eq_true rfl) ?_
                  dsimp only [lsSt, List.set, mLs, mEnt]
                  exact K _ _ _ _ _ _ _ 0 _ _ _ _ _ hI hj (by omega) GRW.rf (by constructor <;> omega) (Or.inl (Int.le_refl _))
          · refine r_aload_n (pc := 1166) dL_law_1166 rfl (by first | rfl | exact isRefV_rf _) ?_
            refine r_iload (pc := 1167) dL_law_1167 rfl ?_
            refine rj_iconst (pc := 1169) dL_law_1169 ?_
            refine r_callV2 (pc := 1170) dL_law_1170 qX10_thing kL_53 vX10_thing ho rfl rfl (Nat.le_of_ble_eq_true rfl) ((oa_thing hI (a := (yq : Int)) (by constructor <;> omega) (i := 0) (by omega)).deeper (Nat.le_of_ble_eq_true rfl)) (fun v_1170 h_1170 q_1170 => ?_)
            obtain ⟨rfl, e_h⟩ := q_1170; replace e_h := e_h.symm; subst e_h
            rw [t0]
            refine rj_if_ne (pc := 1173) (tgt := 1213) dL_law_1173 (by decide) (by first | exact b01_r | exact bz_r | omega | (constructor <;> omega) | apply_assumption | (apply atF_r; assumption) | fail "no range") (fun c_1173 => ?_) (fun c_1173 => ?_)
            · try simp only [b01_0, bz_0, Classical.not_not] at c_1173
              exfalso; first | omega | contradiction | (simp at *; done) | (simp at *; omega)
            · try simp only [b01_0, bz_0, Classical.not_not] at c_1173
              refine r_aload_n (pc := 1176) dL_law_1176 rfl (by first | rfl | exact isRefV_rf _) ?_
              refine r_iload (pc := 1177) dL_law_1177 rfl ?_
              refine rj_iconst (pc := 1179) dL_law_1179 ?_
              refine r_callV2 (pc := 1180) dL_law_1180 qX10_below kL_163 vX10_below ho rfl rfl (Nat.le_of_ble_eq_true rfl) ((oa_below hI (a := s) (by constructor <;> omega) (i := 0) (by constructor <;> omega)).deeper (Nat.le_of_ble_eq_true rfl)) (fun v_1180 h_1180 q_1180 => ?_)
              obtain ⟨rfl, e_h⟩ := q_1180; replace e_h := e_h.symm; subst e_h
              rw [below_root hsc hs]
              refine rj_iconst (pc := 1183) dL_law_1183 ?_
              refine rj_icmp_ne (pc := 1184) (tgt := 1213) dL_law_1184 (by decide) (by first | exact b01_r | exact bz_r | omega | (constructor <;> omega) | apply_assumption | (apply atF_r; assumption) | fail "no range") (by first | exact b01_r | exact bz_r | omega | (constructor <;> omega) | apply_assumption | (apply atF_r; assumption) | fail "no range") (fun c_1184 => ?_) (fun c_1184 => ?_)
              · exfalso; first | omega | contradiction | (simp at *; done) | (simp at *; omega)
              · refine r_aload_n (pc := 1187) dL_law_1187 rfl (by first | rfl | exact isRefV_rf _) ?_
                refine r_iload (pc := 1188) dL_law_1188 rfl ?_
                refine r_iload (pc := 1190) dL_law_1190 rfl ?_
                refine r_callV2 (pc := 1192) dL_law_1192 qX10_below kL_163 vX10_below ho rfl rfl (Nat.le_of_ble_eq_true rfl) ((oa_below hI (a := s) (by constructor <;> omega) (i := s) (by constructor <;> omega)).deeper (Nat.le_of_ble_eq_true rfl)) (fun v_1192 h_1192 q_1192 => ?_)
                obtain ⟨rfl, e_h⟩ := q_1192; replace e_h := e_h.symm; subst e_h
                rw [below_self hs]
                refine rj_iconst (pc := 1195) dL_law_1195 ?_
                refine rj_icmp_ne (pc := 1196) (tgt := 1213) dL_law_1196 (by decide) (by first | exact b01_r | exact bz_r | omega | (constructor <;> omega) | apply_assumption | (apply atF_r; assumption) | fail "no range") (by first | exact b01_r | exact bz_r | omega | (constructor <;> omega) | apply_assumption | (apply atF_r; assumption) | fail "no range") (fun c_1196 => ?_) (fun c_1196 => ?_)
                · exfalso; first | omega | contradiction | (simp at *; done) | (simp at *; omega)
                · refine r_aload_n (pc := 1199) dL_law_1199 rfl (by first | rfl | exact isRefV_rf _) ?_
                  refine r_callS1 (pc := 1200) dL_law_1200 qL_sight kL_94 sL_sight (Nat.le_of_ble_eq_true rfl) ((jl_sight hI).deeper (Nat.le_of_ble_eq_true rfl)) (fun v_1200 h_1200 q_1200 => ?_)
                  obtain ⟨rfl, e_h⟩ := q_1200; replace e_h := e_h.symm; subst e_h
                  refine r_lload (pc := 1203) dL_law_1203 rfl ?_
                  refine r_lcmp (pc := 1205) dL_law_1205 ?_
                  rw [hsg, lcmp_self]
                  refine rj_if_ne (pc := 1206) (tgt := 1213) dL_law_1206 (by decide) (by first | exact b01_r | exact bz_r | omega | (constructor <;> omega) | apply_assumption | (apply atF_r; assumption) | fail "no range") (fun c_1206 => ?_) (fun c_1206 => ?_)
                  · try simp only [b01_0, bz_0, Classical.not_not] at c_1206
                    exfalso; first | omega | contradiction | (simp at *; done) | (simp at *; omega)
                  · try simp only [b01_0, bz_0, Classical.not_not] at c_1206
                    refine rj_iconst (pc := 1209) dL_law_1209 ?_
                    refine r_goto (pc := 1210) (tgt := 1214) dL_law_1210 (by decide) ?_
                    refine rj_and1 (pc := 1214) dL_law_1214 ?_
                    refine r_istore_n (pc := 1215) dL_law_1215 (Nat.le_of_ble_eq_true rfl) ?_
                    dsimp only [lsSt, List.set, mLs, mEnt]
                    exact K _ _ _ _ _ _ _ 0 _ _ _ _ _ hI hj (by omega) GRW.rf (by constructor <;> omega) (Or.inl (Int.le_refl _))
    · refine rj_iconst (pc := 1138) dL_law_1138 ?_
      refine r_goto (pc := 1139) (tgt := 1143) dL_law_1139 (by decide) ?_
      refine r_aload_n (pc := 1143) dL_law_1143 rfl (by first | rfl | exact isRefV_rf _) ?_
      refine r_iload (pc := 1144) dL_law_1144 rfl ?_
      refine rj_iconst (pc := 1146) dL_law_1146 ?_
      refine r_callV2 (pc := 1147) dL_law_1147 qX10_scope kL_57 vX10_scope ho rfl rfl (Nat.le_of_ble_eq_true rfl) ((oa_scope hI (a := s) (by constructor <;> omega) (i := 3) (by constructor <;> omega)).deeper (Nat.le_of_ble_eq_true rfl)) (fun v_1147 h_1147 q_1147 => ?_)
      obtain ⟨rfl, e_h⟩ := q_1147; replace e_h := e_h.symm; subst e_h
      rw [s3]
      refine rj_if_ne (pc := 1150) (tgt := 1157) dL_law_1150 (by decide) (by first | exact b01_r | exact bz_r | omega | (constructor <;> omega) | apply_assumption | (apply atF_r; assumption) | fail "no range") (fun c_1150 => ?_) (fun c_1150 => ?_)
      · try simp only [b01_0, bz_0, Classical.not_not] at c_1150
        refine rj_iconst (pc := 1157) dL_law_1157 ?_
        refine rj_icmp_ne (pc := 1158) (tgt := 1213) dL_law_1158 (by decide) (by first | exact b01_r | exact bz_r | omega | (constructor <;> omega) | apply_assumption | (apply atF_r; assumption) | fail "no range") (by first | exact b01_r | exact bz_r | omega | (constructor <;> omega) | apply_assumption | (apply atF_r; assumption) | fail "no range") (fun c_1158 => ?_) (fun c_1158 => ?_)
        · exfalso; first | omega | contradiction | (simp at *; done) | (simp at *; omega)
        · refine r_iload (pc := 1161) dL_law_1161 rfl ?_
          refine rj_if_lt (pc := 1163) (tgt := 1176) dL_law_1163 (by decide) (by first | exact b01_r | exact bz_r | omega | (constructor <;> omega) | apply_assumption | (apply atF_r; assumption) | fail "no range") (fun c_1163 => ?_) (fun c_1163 => ?_)
          · refine r_aload_n (pc := 1176) dL_law_1176 rfl (by first | rfl | exact isRefV_rf _) ?_
            refine r_iload (pc := 1177) dL_law_1177 rfl ?_
            refine rj_iconst (pc := 1179) dL_law_1179 ?_
            refine r_callV2 (pc := 1180) dL_law_1180 qX10_below kL_163 vX10_below ho rfl rfl (Nat.le_of_ble_eq_true rfl) ((oa_below hI (a := s) (by constructor <;> omega) (i := 0) (by constructor <;> omega)).deeper (Nat.le_of_ble_eq_true rfl)) (fun v_1180 h_1180 q_1180 => ?_)
            obtain ⟨rfl, e_h⟩ := q_1180; replace e_h := e_h.symm; subst e_h
            rw [below_root hsc hs]
            refine rj_iconst (pc := 1183) dL_law_1183 ?_
            refine rj_icmp_ne (pc := 1184) (tgt := 1213) dL_law_1184 (by decide) (by first | exact b01_r | exact bz_r | omega | (constructor <;> omega) | apply_assumption | (apply atF_r; assumption) | fail "no range") (by first | exact b01_r | exact bz_r | omega | (constructor <;> omega) | apply_assumption | (apply atF_r; assumption) | fail "no range") (fun c_1184 => ?_) (fun c_1184 => ?_)
            · exfalso; first | omega | contradiction | (simp at *; done) | (simp at *; omega)
            · refine r_aload_n (pc := 1187) dL_law_1187 rfl (by first | rfl | exact isRefV_rf _) ?_
              refine r_iload (pc := 1188) dL_law_1188 rfl ?_
              refine r_iload (pc := 1190) dL_law_1190 rfl ?_
              refine r_callV2 (pc := 1192) dL_law_1192 qX10_below kL_163 vX10_below ho rfl rfl (Nat.le_of_ble_eq_true rfl) ((oa_below hI (a := s) (by constructor <;> omega) (i := s) (by constructor <;> omega)).deeper (Nat.le_of_ble_eq_true rfl)) (fun v_1192 h_1192 q_1192 => ?_)
              obtain ⟨rfl, e_h⟩ := q_1192; replace e_h := e_h.symm; subst e_h
              rw [below_self hs]
              refine rj_iconst (pc := 1195) dL_law_1195 ?_
              refine rj_icmp_ne (pc := 1196) (tgt := 1213) dL_law_1196 (by decide) (by first | exact b01_r | exact bz_r | omega | (constructor <;> omega) | apply_assumption | (apply atF_r; assumption) | fail "no range") (by first | exact b01_r | exact bz_r | omega | (constructor <;> omega) | apply_assumption | (apply atF_r; assumption) | fail "no range") (fun c_1196 => ?_) (fun c_1196 => ?_)
              · exfalso; first | omega | contradiction | (simp at *; done) | (simp at *; omega)
              · refine r_aload_n (pc := 1199) dL_law_1199 rfl (by first | rfl | exact isRefV_rf _) ?_
                refine r_callS1 (pc := 1200) dL_law_1200 qL_sight kL_94 sL_sight (Nat.le_of_ble_eq_true rfl) ((jl_sight hI).deeper (Nat.le_of_ble_eq_true rfl)) (fun v_1200 h_1200 q_1200 => ?_)
                obtain ⟨rfl, e_h⟩ := q_1200; replace e_h := e_h.symm; subst e_h
                refine r_lload (pc := 1203) dL_law_1203 rfl ?_
                refine r_lcmp (pc := 1205) dL_law_1205 ?_
                rw [hsg, lcmp_self]
                refine rj_if_ne (pc := 1206) (tgt := 1213) dL_law_1206 (by decide) (by first | exact b01_r | exact bz_r | omega | (constructor <;> omega) | apply_assumption | (apply atF_r; assumption) | fail "no range") (fun c_1206 => ?_) (fun c_1206 => ?_)
                · try simp only [b01_0, bz_0, Classical.not_not] at c_1206
                  exfalso; first | omega | contradiction | (simp at *; done) | (simp at *; omega)
                · try simp only [b01_0, bz_0, Classical.not_not] at c_1206
                  refine rj_iconst (pc := 1209) dL_law_1209 ?_
                  refine r_goto (pc := 1210) (tgt := 1214) dL_law_1210 (by decide) ?_
                  refine rj_and1 (pc := 1214) dL_law_1214 ?_
                  refine r_istore_n (pc := 1215) dL_law_1215 (Nat.le_of_ble_eq_true rfl) ?_
                  dsimp only [lsSt, List.set, mLs, mEnt]
                  exact K _ _ _ _ _ _ _ 0 _ _ _ _ _ hI hj (by omega) GRW.rf (by constructor <;> omega) (Or.inl (Int.le_refl _))
          · refine r_aload_n (pc := 1166) dL_law_1166 rfl (by first | rfl | exact isRefV_rf _) ?_
            refine r_iload (pc := 1167) dL_law_1167 rfl ?_
            refine rj_iconst (pc := 1169) dL_law_1169 ?_
            refine r_callV2 (pc := 1170) dL_law_1170 qX10_thing kL_53 vX10_thing ho rfl rfl (Nat.le_of_ble_eq_true rfl) ((oa_thing hI (a := (yq : Int)) (by constructor <;> omega) (i := 0) (by omega)).deeper (Nat.le_of_ble_eq_true rfl)) (fun v_1170 h_1170 q_1170 => ?_)
            obtain ⟨rfl, e_h⟩ := q_1170; replace e_h := e_h.symm; subst e_h
            rw [t0]
            refine rj_if_ne (pc := 1173) (tgt := 1213) dL_law_1173 (by decide) (by first | exact b01_r | exact bz_r | omega | (constructor <;> omega) | apply_assumption | (apply atF_r; assumption) | fail "no range") (fun c_1173 => ?_) (fun c_1173 => ?_)
            · try simp only [b01_0, bz_0, Classical.not_not] at c_1173
              exfalso; first | omega | contradiction | (simp at *; done) | (simp at *; omega)
            · try simp only [b01_0, bz_0, Classical.not_not] at c_1173
              refine r_aload_n (pc := 1176) dL_law_1176 rfl (by first | rfl | exact isRefV_rf _) ?_
              refine r_iload (pc := 1177) dL_law_1177 rfl ?_
              refine rj_iconst (pc := 1179) dL_law_1179 ?_
              refine r_callV2 (pc := 1180) dL_law_1180 qX10_below kL_163 vX10_below ho rfl rfl (Nat.le_of_ble_eq_true rfl) ((oa_below hI (a := s) (by constructor <;> omega) (i := 0) (by constructor <;> omega)).deeper (Nat.le_of_ble_eq_true rfl)) (fun v_1180 h_1180 q_1180 => ?_)
              obtain ⟨rfl, e_h⟩ := q_1180; replace e_h := e_h.symm; subst e_h
              rw [below_root hsc hs]
              refine rj_iconst (pc := 1183) dL_law_1183 ?_
              refine rj_icmp_ne (pc := 1184) (tgt := 1213) dL_law_1184 (by decide) (by first | exact b01_r | exact bz_r | omega | (constructor <;> omega) | apply_assumption | (apply atF_r; assumption) | fail "no range") (by first | exact b01_r | exact bz_r | omega | (constructor <;> omega) | apply_assumption | (apply atF_r; assumption) | fail "no range") (fun c_1184 => ?_) (fun c_1184 => ?_)
              · exfalso; first | omega | contradiction | (simp at *; done) | (simp at *; omega)
              · refine r_aload_n (pc := 1187) dL_law_1187 rfl (by first | rfl | exact isRefV_rf _) ?_
                refine r_iload (pc := 1188) dL_law_1188 rfl ?_
                refine r_iload (pc := 1190) dL_law_1190 rfl ?_
                refine r_callV2 (pc := 1192) dL_law_1192 qX10_below kL_163 vX10_below ho rfl rfl (Nat.le_of_ble_eq_true rfl) ((oa_below hI (a := s) (by constructor <;> omega) (i := s) (by constructor <;> omega)).deeper (Nat.le_of_ble_eq_true rfl)) (fun v_1192 h_1192 q_1192 => ?_)
                obtain ⟨rfl, e_h⟩ := q_1192; replace e_h := e_h.symm; subst e_h
                rw [below_self hs]
                refine rj_iconst (pc := 1195) dL_law_1195 ?_
                refine rj_icmp_ne (pc := 1196) (tgt := 1213) dL_law_1196 (by decide) (by first | exact b01_r | exact bz_r | omega | (constructor <;> omega) | apply_assumption | (apply atF_r; assumption) | fail "no range") (by first | exact b01_r | exact bz_r | omega | (constructor <;> omega) | apply_assumption | (apply atF_r; assumption) | fail "no range") (fun c_1196 => ?_) (fun c_1196 => ?_)
                · exfalso; first | omega | contradiction | (simp at *; done) | (simp at *; omega)
                · refine r_aload_n (pc := 1199) dL_law_1199 rfl (by first | rfl | exact isRefV_rf _) ?_
                  refine r_callS1 (pc := 1200) dL_law_1200 qL_sight kL_94 sL_sight (Nat.le_of_ble_eq_true rfl) ((jl_sight hI).deeper (Nat.le_of_ble_eq_true rfl)) (fun v_1200 h_1200 q_1200 => ?_)
                  obtain ⟨rfl, e_h⟩ := q_1200; replace e_h := e_h.symm; subst e_h
                  refine r_lload (pc := 1203) dL_law_1203 rfl ?_
                  refine r_lcmp (pc := 1205) dL_law_1205 ?_
                  rw [hsg, lcmp_self]
                  refine rj_if_ne (pc := 1206) (tgt := 1213) dL_law_1206 (by decide) (by first | exact b01_r | exact bz_r | omega | (constructor <;> omega) | apply_assumption | (apply atF_r; assumption) | fail "no range") (fun c_1206 => ?_) (fun c_1206 => ?_)
                  · try simp only [b01_0, bz_0, Classical.not_not] at c_1206
                    exfalso; first | omega | contradiction | (simp at *; done) | (simp at *; omega)
                  · try simp only [b01_0, bz_0, Classical.not_not] at c_1206
                    refine rj_iconst (pc := 1209) dL_law_1209 ?_
                    refine r_goto (pc := 1210) (tgt := 1214) dL_law_1210 (by decide) ?_
                    refine rj_and1 (pc := 1214) dL_law_1214 ?_
                    refine r_istore_n (pc := 1215) dL_law_1215 (Nat.le_of_ble_eq_true rfl) ?_
                    dsimp only [lsSt, List.set, mLs, mEnt]
                    exact K _ _ _ _ _ _ _ 0 _ _ _ _ _ hI hj (by omega) GRW.rf (by constructor <;> omega) (Or.inl (Int.le_refl _))
      · try simp only [b01_0, bz_0, Classical.not_not] at c_1150
        refine rj_iconst (pc := 1153) dL_law_1153 ?_
        refine r_goto (pc := 1154) (tgt := 1158) dL_law_1154 (by decide) ?_
        refine rj_icmp_ne (pc := 1158) (tgt := 1213) dL_law_1158 (by decide) (by first | exact b01_r | exact bz_r | omega | (constructor <;> omega) | apply_assumption | (apply atF_r; assumption) | fail "no range") (by first | exact b01_r | exact bz_r | omega | (constructor <;> omega) | apply_assumption | (apply atF_r; assumption) | fail "no range") (fun c_1158 => ?_) (fun c_1158 => ?_)
        · exfalso; first | omega | contradiction | (simp at *; done) | (simp at *; omega)
        · refine r_iload (pc := 1161) dL_law_1161 rfl ?_
          refine rj_if_lt (pc := 1163) (tgt := 1176) dL_law_1163 (by decide) (by first | exact b01_r | exact bz_r | omega | (constructor <;> omega) | apply_assumption | (apply atF_r; assumption) | fail "no range") (fun c_1163 => ?_) (fun c_1163 => ?_)
          · refine r_aload_n (pc := 1176) dL_law_1176 rfl (by first | rfl | exact isRefV_rf _) ?_
            refine r_iload (pc := 1177) dL_law_1177 rfl ?_
            refine rj_iconst (pc := 1179) dL_law_1179 ?_
            refine r_callV2 (pc := 1180) dL_law_1180 qX10_below kL_163 vX10_below ho rfl rfl (Nat.le_of_ble_eq_true rfl) ((oa_below hI (a := s) (by constructor <;> omega) (i := 0) (by constructor <;> omega)).deeper (Nat.le_of_ble_eq_true rfl)) (fun v_1180 h_1180 q_1180 => ?_)
            obtain ⟨rfl, e_h⟩ := q_1180; replace e_h := e_h.symm; subst e_h
            rw [below_root hsc hs]
            refine rj_iconst (pc := 1183) dL_law_1183 ?_
            refine rj_icmp_ne (pc := 1184) (tgt := 1213) dL_law_1184 (by decide) (by first | exact b01_r | exact bz_r | omega | (constructor <;> omega) | apply_assumption | (apply atF_r; assumption) | fail "no range") (by first | exact b01_r | exact bz_r | omega | (constructor <;> omega) | apply_assumption | (apply atF_r; assumption) | fail "no range") (fun c_1184 => ?_) (fun c_1184 => ?_)
            · exfalso; first | omega | contradiction | (simp at *; done) | (simp at *; omega)
            · refine r_aload_n (pc := 1187) dL_law_1187 rfl (by first | rfl | exact isRefV_rf _) ?_
              refine r_iload (pc := 1188) dL_law_1188 rfl ?_
              refine r_iload (pc := 1190) dL_law_1190 rfl ?_
              refine r_callV2 (pc := 1192) dL_law_1192 qX10_below kL_163 vX10_below ho rfl rfl (Nat.le_of_ble_eq_true rfl) ((oa_below hI (a := s) (by constructor <;> omega) (i := s) (by constructor <;> omega)).deeper (Nat.le_of_ble_eq_true rfl)) (fun v_1192 h_1192 q_1192 => ?_)
              obtain ⟨rfl, e_h⟩ := q_1192; replace e_h := e_h.symm; subst e_h
              rw [below_self hs]
              refine rj_iconst (pc := 1195) dL_law_1195 ?_
              refine rj_icmp_ne (pc := 1196) (tgt := 1213) dL_law_1196 (by decide) (by first | exact b01_r | exact bz_r | omega | (constructor <;> omega) | apply_assumption | (apply atF_r; assumption) | fail "no range") (by first | exact b01_r | exact bz_r | omega | (constructor <;> omega) | apply_assumption | (apply atF_r; assumption) | fail "no range") (fun c_1196 => ?_) (fun c_1196 => ?_)
              · exfalso; first | omega | contradiction | (simp at *; done) | (simp at *; omega)
              · refine r_aload_n (pc := 1199) dL_law_1199 rfl (by first | rfl | exact isRefV_rf _) ?_
                refine r_callS1 (pc := 1200) dL_law_1200 qL_sight kL_94 sL_sight (Nat.le_of_ble_eq_true rfl) ((jl_sight hI).deeper (Nat.le_of_ble_eq_true rfl)) (fun v_1200 h_1200 q_1200 => ?_)
                obtain ⟨rfl, e_h⟩ := q_1200; replace e_h := e_h.symm; subst e_h
                refine r_lload (pc := 1203) dL_law_1203 rfl ?_
                refine r_lcmp (pc := 1205) dL_law_1205 ?_
                rw [hsg, lcmp_self]
                refine rj_if_ne (pc := 1206) (tgt := 1213) dL_law_1206 (by decide) (by first | exact b01_r | exact bz_r | omega | (constructor <;> omega) | apply_assumption | (apply atF_r; assumption) | fail "no range") (fun c_1206 => ?_) (fun c_1206 => ?_)
                · try simp only [b01_0, bz_0, Classical.not_not] at c_1206
                  exfalso; first | omega | contradiction | (simp at *; done) | (simp at *; omega)
                · try simp only [b01_0, bz_0, Classical.not_not] at c_1206
                  refine rj_iconst (pc := 1209) dL_law_1209 ?_
                  refine r_goto (pc := 1210) (tgt := 1214) dL_law_1210 (by decide) ?_
                  refine rj_and1 (pc := 1214) dL_law_1214 ?_
                  refine r_istore_n (pc := 1215) dL_law_1215 (Nat.le_of_ble_eq_true rfl) ?_
                  dsimp only [lsSt, List.set, mLs, mEnt]
                  exact K _ _ _ _ _ _ _ 0 _ _ _ _ _ hI hj (by omega) GRW.rf (by constructor <;> omega) (Or.inl (Int.le_refl _))
          · refine r_aload_n (pc := 1166) dL_law_1166 rfl (by first | rfl | exact isRefV_rf _) ?_
            refine r_iload (pc := 1167) dL_law_1167 rfl ?_
            refine rj_iconst (pc := 1169) dL_law_1169 ?_
            refine r_callV2 (pc := 1170) dL_law_1170 qX10_thing kL_53 vX10_thing ho rfl rfl (Nat.le_of_ble_eq_true rfl) ((oa_thing hI (a := (yq : Int)) (by constructor <;> omega) (i := 0) (by omega)).deeper (Nat.le_of_ble_eq_true rfl)) (fun v_1170 h_1170 q_1170 => ?_)
            obtain ⟨rfl, e_h⟩ := q_1170; replace e_h := e_h.symm; subst e_h
            rw [t0]
            refine rj_if_ne (pc := 1173) (tgt := 1213) dL_law_1173 (by decide) (by first | exact b01_r | exact bz_r | omega | (constructor <;> omega) | apply_assumption | (apply atF_r; assumption) | fail "no range") (fun c_1173 => ?_) (fun c_1173 => ?_)
            · try simp only [b01_0, bz_0, Classical.not_not] at c_1173
              exfalso; first | omega | contradiction | (simp at *; done) | (simp at *; omega)
            · try simp only [b01_0, bz_0, Classical.not_not] at c_1173
              refine r_aload_n (pc := 1176) dL_law_1176 rfl (by first | rfl | exact isRefV_rf _) ?_
              refine r_iload (pc := 1177) dL_law_1177 rfl ?_
              refine rj_iconst (pc := 1179) dL_law_1179 ?_
              refine r_callV2 (pc := 1180) dL_law_1180 qX10_below kL_163 vX10_below ho rfl rfl (Nat.le_of_ble_eq_true rfl) ((oa_below hI (a := s) (by constructor <;> omega) (i := 0) (by constructor <;> omega)).deeper (Nat.le_of_ble_eq_true rfl)) (fun v_1180 h_1180 q_1180 => ?_)
              obtain ⟨rfl, e_h⟩ := q_1180; replace e_h := e_h.symm; subst e_h
              rw [below_root hsc hs]
              refine rj_iconst (pc := 1183) dL_law_1183 ?_
              refine rj_icmp_ne (pc := 1184) (tgt := 1213) dL_law_1184 (by decide) (by first | exact b01_r | exact bz_r | omega | (constructor <;> omega) | apply_assumption | (apply atF_r; assumption) | fail "no range") (by first | exact b01_r | exact bz_r | omega | (constructor <;> omega) | apply_assumption | (apply atF_r; assumption) | fail "no range") (fun c_1184 => ?_) (fun c_1184 => ?_)
              · exfalso; first | omega | contradiction | (simp at *; done) | (simp at *; omega)
              · refine r_aload_n (pc := 1187) dL_law_1187 rfl (by first | rfl | exact isRefV_rf _) ?_
                refine r_iload (pc := 1188) dL_law_1188 rfl ?_
                refine r_iload (pc := 1190) dL_law_1190 rfl ?_
                refine r_callV2 (pc := 1192) dL_law_1192 qX10_below kL_163 vX10_below ho rfl rfl (Nat.le_of_ble_eq_true rfl) ((oa_below hI (a := s) (by constructor <;> omega) (i := s) (by constructor <;> omega)).deeper (Nat.le_of_ble_eq_true rfl)) (fun v_1192 h_1192 q_1192 => ?_)
                obtain ⟨rfl, e_h⟩ := q_1192; replace e_h := e_h.symm; subst e_h
                rw [below_self hs]
                refine rj_iconst (pc := 1195) dL_law_1195 ?_
                refine rj_icmp_ne (pc := 1196) (tgt := 1213) dL_law_1196 (by decide) (by first | exact b01_r | exact bz_r | omega | (constructor <;> omega) | apply_assumption | (apply atF_r; assumption) | fail "no range") (by first | exact b01_r | exact bz_r | omega | (constructor <;> omega) | apply_assumption | (apply atF_r; assumption) | fail "no range") (fun c_1196 => ?_) (fun c_1196 => ?_)
                · exfalso; first | omega | contradiction | (simp at *; done) | (simp at *; omega)
                · refine r_aload_n (pc := 1199) dL_law_1199 rfl (by first | rfl | exact isRefV_rf _) ?_
                  refine r_callS1 (pc := 1200) dL_law_1200 qL_sight kL_94 sL_sight (Nat.le_of_ble_eq_true rfl) ((jl_sight hI).deeper (Nat.le_of_ble_eq_true rfl)) (fun v_1200 h_1200 q_1200 => ?_)
                  obtain ⟨rfl, e_h⟩ := q_1200; replace e_h := e_h.symm; subst e_h
                  refine r_lload (pc := 1203) dL_law_1203 rfl ?_
                  refine r_lcmp (pc := 1205) dL_law_1205 ?_
                  rw [hsg, lcmp_self]
                  refine rj_if_ne (pc := 1206) (tgt := 1213) dL_law_1206 (by decide) (by first | exact b01_r | exact bz_r | omega | (constructor <;> omega) | apply_assumption | (apply atF_r; assumption) | fail "no range") (fun c_1206 => ?_) (fun c_1206 => ?_)
                  · try simp only [b01_0, bz_0, Classical.not_not] at c_1206
                    exfalso; first | omega | contradiction | (simp at *; done) | (simp at *; omega)
                  · try simp only [b01_0, bz_0, Classical.not_not] at c_1206
                    refine rj_iconst (pc := 1209) dL_law_1209 ?_
                    refine r_goto (pc := 1210) (tgt := 1214) dL_law_1210 (by decide) ?_
                    refine rj_and1 (pc := 1214) dL_law_1214 ?_
                    refine r_istore_n (pc := 1215) dL_law_1215 (Nat.le_of_ble_eq_true rfl) ?_
                    dsimp only [lsSt, List.set, mLs, mEnt]
                    exact K _ _ _ _ _ _ _ 0 _ _ _ _ _ hI hj (by omega) GRW.rf (by constructor <;> omega) (Or.inl (Int.le_refl _))
end N9
