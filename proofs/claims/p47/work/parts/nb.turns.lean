/-! ===== the plan of a scope (by program) ===== -/
section NB
variable {G : mG} {l : Launch} {x n0 : Nat} {h : mH} {f4 : Int} {m kpm pool : Nat → Int} {ft : Nat → Int} {b : Nat} {tn kk s : Int} {qq : Int32} {sg : Int64} {a11 a12 a13 a14 a15 : Option Value} {Q : Option Value → mH → Prop}
set_option maxHeartbeats 4000000 in
set_option maxRecDepth 100000 in
theorem law_ploop (hI : RO x (x + 196) n0 f4 m kpm pool 0 ft h) (hj : JI m) {sn : Nat} (hs : (sn : Int) < m 0) {p2 : Nat → Int} {kq : Nat} (hk : kq ≤ 90) (pl : ∀ {i : Int}, InR i → RUNM G l 1000 mX10_plan [.ref x, .int (J (sn : Int)), .int (J i)] h (fun v h' => v = some (.int (J (planV p2 kq i))) ∧ h' = h)) (po : PLO m (m 1).toNat (fun t => inE m t (100 + sn)) (inN m (m 1).toNat (100 + sn)) (fun _ => 0) 0 p2 kq) (n i : Nat) (e : i + n = kq)
    (K : RUN G l 2048 mLaw 1075 [some (.ref b), some (.ref x), some (.int (J 1)), some (.int (J tn)), some (.int qq), some (.int (J kk)), some (.int (J (sn : Int))), some (.int (J (m 1))), some (.long sg), none, some (.int (J 0)), some (.int (J (kq : Int))), some (.int (J ((i + n : Nat) : Int))), some (.int (J ((i + n : Nat) : Int))), a14, a15] [] h Q) : RUN G l 2048 mLaw 1028 [some (.ref b), some (.ref x), some (.int (J 1)), some (.int (J tn)), some (.int qq), some (.int (J kk)), some (.int (J (sn : Int))), some (.int (J (m 1))), some (.long sg), none, some (.int (J 0)), some (.int (J (kq : Int))), some (.int (J (i : Int))), some (.int (J (i : Int))), a14, a15] [] h Q := by
  obtain ⟨fs, ho⟩ := hI.gx
  obtain ⟨m0, m1, m2, m3, hh, hnc, hns, hsc⟩ := hI.b2
  have hp := hI.plh hj
  induction n generalizing i with
  | zero =>
    refine r_iload (pc := 1028) dL_law_1028 rfl ?_
    refine r_iload (pc := 1030) dL_law_1030 rfl ?_
    refine rj_icmp_ge (pc := 1032) (tgt := 1075) dL_law_1032 (by decide) (by first | exact b01_r | exact bz_r | omega | (constructor <;> omega) | apply_assumption | (apply atF_r; assumption) | fail "no range") (by first | exact b01_r | exact bz_r | omega | (constructor <;> omega) | apply_assumption | (apply atF_r; assumption) | fail "no range") (fun c_1032 => ?_) (fun c_1032 => ?_)
    · exact K
    · exfalso; omega
  | succ n ih =>
    obtain ⟨t, t1, t2, t3, t4⟩ := po.2.2 i (Nat.zero_le _) (by omega)
    have own := hp.2.1 t t2
    have e1 : planV p2 kq (i : Int) = t := by
      unfold planV
      rw [if_pos ⟨by omega, by omega⟩, if_neg (by omega), show ((i : Int)).toNat = i by omega]
      exact t1
    have e2 : thgV m (t : Int) 1 = m (259 + 14 * t) := by
      unfold thgV
      rw [if_pos ⟨by omega, by omega⟩, if_neg (by decide), if_pos rfl, show ((t : Int)).toNat = t by omega]
    have e3 : belowV m (m 0).toNat (m (259 + 14 * t)) (sn : Int) = 1 := by
      unfold belowV
      rw [if_pos ⟨⟨by omega, by omega⟩, by omega, by omega⟩]
      have z := (in_held hp t2 (c := sn)).mpr ⟨t3, t4⟩
      unfold heldInB at z
      rw [Bool.and_eq_true] at z
      rw [z.2]
      rfl
    refine r_iload (pc := 1028) dL_law_1028 rfl ?_
    refine r_iload (pc := 1030) dL_law_1030 rfl ?_
    refine rj_icmp_ge (pc := 1032) (tgt := 1075) dL_law_1032 (by decide) (by first | exact b01_r | exact bz_r | omega | (constructor <;> omega) | apply_assumption | (apply atF_r; assumption) | fail "no range") (by first | exact b01_r | exact bz_r | omega | (constructor <;> omega) | apply_assumption | (apply atF_r; assumption) | fail "no range") (fun c_1032 => ?_) (fun c_1032 => ?_)
    · exfalso; omega
    · refine r_iload_n (pc := 1035) dL_law_1035 rfl ?_
      refine r_aload_n (pc := 1036) dL_law_1036 rfl (by first | rfl | exact isRefV_rf _) ?_
      refine r_aload_n (pc := 1037) dL_law_1037 rfl (by first | rfl | exact isRefV_rf _) ?_
      refine r_aload_n (pc := 1038) dL_law_1038 rfl (by first | rfl | exact isRefV_rf _) ?_
      refine r_iload (pc := 1039) dL_law_1039 rfl ?_
      refine r_iload (pc := 1041) dL_law_1041 rfl ?_
      refine r_callV2 (pc := 1043) dL_law_1043 qX10_plan kL_136 vX10_plan ho rfl rfl (Nat.le_of_ble_eq_true rfl) ((pl (i := (i : Int)) (by constructor <;> omega)).deeper (Nat.le_of_ble_eq_true rfl)) (fun v_1043 h_1043 q_1043 => ?_)
      obtain ⟨rfl, e_h⟩ := q_1043; replace e_h := e_h.symm; subst e_h
      rw [e1]
      refine rj_iconst (pc := 1046) dL_law_1046 ?_
      refine r_callV2 (pc := 1047) dL_law_1047 qX10_thing kL_53 vX10_thing ho rfl rfl (Nat.le_of_ble_eq_true rfl) ((oa_thing hI (a := (t : Int)) (by constructor <;> omega) (i := 1) (by omega)).deeper (Nat.le_of_ble_eq_true rfl)) (fun v_1047 h_1047 q_1047 => ?_)
      obtain ⟨rfl, e_h⟩ := q_1047; replace e_h := e_h.symm; subst e_h
      rw [e2]
      refine r_iload (pc := 1050) dL_law_1050 rfl ?_
      refine r_callV2 (pc := 1052) dL_law_1052 qX10_below kL_163 vX10_below ho rfl rfl (Nat.le_of_ble_eq_true rfl) ((oa_below hI (a := m (259 + 14 * t)) (by constructor <;> omega) (i := (sn : Int)) (by constructor <;> omega)).deeper (Nat.le_of_ble_eq_true rfl)) (fun v_1052 h_1052 q_1052 => ?_)
      obtain ⟨rfl, e_h⟩ := q_1052; replace e_h := e_h.symm; subst e_h
      rw [e3]
      refine rj_iconst (pc := 1055) dL_law_1055 ?_
      refine rj_icmp_ne (pc := 1056) (tgt := 1063) dL_law_1056 (by decide) (by first | exact b01_r | exact bz_r | omega | (constructor <;> omega) | apply_assumption | (apply atF_r; assumption) | fail "no range") (by first | exact b01_r | exact bz_r | omega | (constructor <;> omega) | apply_assumption | (apply atF_r; assumption) | fail "no range") (fun c_1056 => ?_) (fun c_1056 => ?_)
      · exfalso; first | omega | contradiction | (simp at *; done)
      · refine rj_iconst (pc := 1059) dL_law_1059 ?_
        refine r_goto (pc := 1060) (tgt := 1064) dL_law_1060 (by decide) ?_
        refine rj_and1 (pc := 1064) dL_law_1064 ?_
        refine r_istore_n (pc := 1065) dL_law_1065 (Nat.le_of_ble_eq_true rfl) ?_
        dsimp only [lsSt, List.set, mLs, mEnt]
        refine rj_iinc (pc := 1066) dL_law_1066 (Nat.le_of_ble_eq_true rfl) rfl ?_
        dsimp only [lsSt, List.set, mLs, mEnt]
        refine rj_iinc (pc := 1069) dL_law_1069 (Nat.le_of_ble_eq_true rfl) rfl ?_
        dsimp only [lsSt, List.set, mLs, mEnt]
        refine r_goto (pc := 1072) (tgt := 1028) dL_law_1072 (by decide) ?_
        rw [show (i : Int) + 1 = ((i + 1 : Nat) : Int) by omega]
        refine ih (i + 1) (by omega) ?_
        rw [show i + 1 + n = i + (n + 1) by omega]
        exact K
set_option maxHeartbeats 4000000 in
set_option maxRecDepth 100000 in
theorem law_plan2 (hG : G.2.map Prod.snd = mTy) (hn0 : n0 ≤ 500) (hI : RO x (x + 196) n0 f4 m kpm pool 0 ft h) (hj : JI m) {sn : Nat} (hs : (sn : Int) < m 0) (hsg : sgt m = sg) (K : TLK G l x n0 b h tn kk (sn : Int) (m 1) qq sg Q) {kq : Nat} (hk : kq ≤ 90) (pc : (kq : Int) = cnt (heldInB m (m 0).toNat (sn : Int)) (m 1).toNat) {u12 u13 : Int} (hu : u12 = kq) : RUN G l 2048 mLaw 1075 [some (.ref b), some (.ref x), some (.int (J 1)), some (.int (J tn)), some (.int qq), some (.int (J kk)), some (.int (J (sn : Int))), some (.int (J (m 1))), some (.long sg), none, some (.int (J 0)), some (.int (J (kq : Int))), some (.int (J u12)), some (.int (J u13)), a14, a15] [] h Q := by
  obtain ⟨fs, ho⟩ := hI.gx
  obtain ⟨m0, m1, m2, m3, hh, hnc, hns, hsc⟩ := hI.b2
  have s4 := hns sn (by omega)
  have s5 := (hsc.2.2 sn (by omega)).1
  have s6 := in_shut (hI.plh hj) (c := sn)
  have s7 : scopeV m (m 1).toNat (m 0).toNat (sn : Int) 0 = if m (18 + 4 * sn) = 0 then 0 else 1 := by
    unfold scopeV
    rw [if_pos ⟨by omega, by omega⟩, if_pos rfl, show ((18 : Int) + 4 * (sn : Int)).toNat = 18 + 4 * sn by omega]
  have s8 : scopeV m (m 1).toNat (m 0).toNat (sn : Int) 3 = cnt (heldInB m (m 0).toNat (sn : Int)) (m 1).toNat := by
    unfold scopeV
    rw [if_pos ⟨by omega, by omega⟩, if_neg (by decide), if_neg (by decide), if_neg (by decide), if_pos rfl]
  have s9 : ¬ m (18 + 4 * sn) = 0 → cnt (heldInB m (m 0).toNat (sn : Int)) (m 1).toNat = 0 := fun z => s6 (by omega)
  refine r_iload_n (pc := 1075) dL_law_1075 rfl ?_
  refine r_iload (pc := 1076) dL_law_1076 rfl ?_
  refine r_aload_n (pc := 1078) dL_law_1078 rfl (by first | rfl | exact isRefV_rf _) ?_
  refine r_iload (pc := 1079) dL_law_1079 rfl ?_
  refine rj_iconst (pc := 1081) dL_law_1081 ?_
  refine r_callV2 (pc := 1082) dL_law_1082 qX10_scope kL_57 vX10_scope ho rfl rfl (Nat.le_of_ble_eq_true rfl) ((oa_scope hI (a := (sn : Int)) (by constructor <;> omega) (i := 0) (by constructor <;> omega)).deeper (Nat.le_of_ble_eq_true rfl)) (fun v_1082 h_1082 q_1082 => ?_)
  obtain ⟨rfl, e_h⟩ := q_1082; replace e_h := e_h.symm; subst e_h
  rw [s7]
  by_cases so : m (18 + 4 * sn) = 0
  · rw [if_pos so]
    refine rj_if_ne (pc := 1085) (tgt := 1098) dL_law_1085 (by decide) (by first | exact b01_r | exact bz_r | omega | (constructor <;> omega) | apply_assumption | (apply atF_r; assumption) | fail "no range") (fun c_1085 => ?_) (fun c_1085 => ?_)
    · try simp only [b01_0, bz_0, Classical.not_not] at c_1085
      exfalso; first | omega | contradiction | (simp at *; done)
    · try simp only [b01_0, bz_0, Classical.not_not] at c_1085
      refine r_aload_n (pc := 1088) dL_law_1088 rfl (by first | rfl | exact isRefV_rf _) ?_
      refine r_iload (pc := 1089) dL_law_1089 rfl ?_
      refine rj_iconst (pc := 1091) dL_law_1091 ?_
      refine r_callV2 (pc := 1092) dL_law_1092 qX10_scope kL_57 vX10_scope ho rfl rfl (Nat.le_of_ble_eq_true rfl) ((oa_scope hI (a := (sn : Int)) (by constructor <;> omega) (i := 3) (by constructor <;> omega)).deeper (Nat.le_of_ble_eq_true rfl)) (fun v_1092 h_1092 q_1092 => ?_)
      obtain ⟨rfl, e_h⟩ := q_1092; replace e_h := e_h.symm; subst e_h
      rw [s8]
      refine r_goto (pc := 1095) (tgt := 1099) dL_law_1095 (by decide) ?_
      refine rj_icmp_ne (pc := 1099) (tgt := 1116) dL_law_1099 (by decide) (by first | exact b01_r | exact bz_r | omega | (constructor <;> omega) | apply_assumption | (apply atF_r; assumption) | fail "no range") (by first | exact b01_r | exact bz_r | omega | (constructor <;> omega) | apply_assumption | (apply atF_r; assumption) | fail "no range") (fun c_1099 => ?_) (fun c_1099 => ?_)
      · exfalso; first | omega | contradiction | (simp at *; done)
      · refine r_aload_n (pc := 1102) dL_law_1102 rfl (by first | rfl | exact isRefV_rf _) ?_
        refine r_callS1 (pc := 1103) dL_law_1103 qL_sight kL_94 sL_sight (Nat.le_of_ble_eq_true rfl) ((jl_sight hI).deeper (Nat.le_of_ble_eq_true rfl)) (fun v_1103 h_1103 q_1103 => ?_)
        obtain ⟨rfl, e_h⟩ := q_1103; replace e_h := e_h.symm; subst e_h
        refine r_lload (pc := 1106) dL_law_1106 rfl ?_
        refine r_lcmp (pc := 1108) dL_law_1108 ?_
        rw [hsg, lcmp_self]
        refine rj_if_ne (pc := 1109) (tgt := 1116) dL_law_1109 (by decide) (by first | exact b01_r | exact bz_r | omega | (constructor <;> omega) | apply_assumption | (apply atF_r; assumption) | fail "no range") (fun c_1109 => ?_) (fun c_1109 => ?_)
        · try simp only [b01_0, bz_0, Classical.not_not] at c_1109
          exfalso; first | omega | contradiction | (simp at *; done)
        · try simp only [b01_0, bz_0, Classical.not_not] at c_1109
          refine rj_iconst (pc := 1112) dL_law_1112 ?_
          refine r_goto (pc := 1113) (tgt := 1117) dL_law_1113 (by decide) ?_
          refine rj_and1 (pc := 1117) dL_law_1117 ?_
          refine r_istore_n (pc := 1118) dL_law_1118 (Nat.le_of_ble_eq_true rfl) ?_
          dsimp only [lsSt, List.set, mLs, mEnt]
          refine r_goto (pc := 1119) (tgt := 1216) dL_law_1119 (by decide) ?_
          exact K _ _ _ _ _ _ _ 0 _ _ _ _ _ hI hj (by omega) GRW.rf (by constructor <;> omega) (Or.inl (Int.le_refl _))
  · rw [if_neg so]
    have s10 := s9 so
    refine rj_if_ne (pc := 1085) (tgt := 1098) dL_law_1085 (by decide) (by first | exact b01_r | exact bz_r | omega | (constructor <;> omega) | apply_assumption | (apply atF_r; assumption) | fail "no range") (fun c_1085 => ?_) (fun c_1085 => ?_)
    · try simp only [b01_0, bz_0, Classical.not_not] at c_1085
      refine rj_iconst (pc := 1098) dL_law_1098 ?_
      refine rj_icmp_ne (pc := 1099) (tgt := 1116) dL_law_1099 (by decide) (by first | exact b01_r | exact bz_r | omega | (constructor <;> omega) | apply_assumption | (apply atF_r; assumption) | fail "no range") (by first | exact b01_r | exact bz_r | omega | (constructor <;> omega) | apply_assumption | (apply atF_r; assumption) | fail "no range") (fun c_1099 => ?_) (fun c_1099 => ?_)
      · exfalso; first | omega | contradiction | (simp at *; done)
      · refine r_aload_n (pc := 1102) dL_law_1102 rfl (by first | rfl | exact isRefV_rf _) ?_
        refine r_callS1 (pc := 1103) dL_law_1103 qL_sight kL_94 sL_sight (Nat.le_of_ble_eq_true rfl) ((jl_sight hI).deeper (Nat.le_of_ble_eq_true rfl)) (fun v_1103 h_1103 q_1103 => ?_)
        obtain ⟨rfl, e_h⟩ := q_1103; replace e_h := e_h.symm; subst e_h
        refine r_lload (pc := 1106) dL_law_1106 rfl ?_
        refine r_lcmp (pc := 1108) dL_law_1108 ?_
        rw [hsg, lcmp_self]
        refine rj_if_ne (pc := 1109) (tgt := 1116) dL_law_1109 (by decide) (by first | exact b01_r | exact bz_r | omega | (constructor <;> omega) | apply_assumption | (apply atF_r; assumption) | fail "no range") (fun c_1109 => ?_) (fun c_1109 => ?_)
        · try simp only [b01_0, bz_0, Classical.not_not] at c_1109
          exfalso; first | omega | contradiction | (simp at *; done)
        · try simp only [b01_0, bz_0, Classical.not_not] at c_1109
          refine rj_iconst (pc := 1112) dL_law_1112 ?_
          refine r_goto (pc := 1113) (tgt := 1117) dL_law_1113 (by decide) ?_
          refine rj_and1 (pc := 1117) dL_law_1117 ?_
          refine r_istore_n (pc := 1118) dL_law_1118 (Nat.le_of_ble_eq_true rfl) ?_
          dsimp only [lsSt, List.set, mLs, mEnt]
          refine r_goto (pc := 1119) (tgt := 1216) dL_law_1119 (by decide) ?_
          exact K _ _ _ _ _ _ _ 0 _ _ _ _ _ hI hj (by omega) GRW.rf (by constructor <;> omega) (Or.inl (Int.le_refl _))
    · try simp only [b01_0, bz_0, Classical.not_not] at c_1085
      exfalso; first | omega | contradiction | (simp at *; done)
set_option maxHeartbeats 4000000 in
set_option maxRecDepth 100000 in
theorem law_plan (hG : G.2.map Prod.snd = mTy) (hn0 : n0 ≤ 500) (hI : RO x (x + 196) n0 f4 m kpm pool 0 ft h) (hj : JI m) (hs : 0 ≤ s ∧ s ≤ m 0 - 1) (hsg : sgt m = sg) (K : TLK G l x n0 b h tn kk s (m 1) qq sg Q) : RUN G l 2048 mLaw 1013 [some (.ref b), some (.ref x), some (.int (J 1)), some (.int (J tn)), some (.int qq), some (.int (J kk)), some (.int (J s)), some (.int (J (m 1))), some (.long sg), none, some (.int (J 0)), a11, a12, a13, a14, a15] [] h Q := by
  obtain ⟨fs, ho⟩ := hI.gx
  obtain ⟨m0, m1, m2, m3, hh, hnc, hns, hsc⟩ := hI.b2
  obtain ⟨sn, rfl⟩ : ∃ sn : Nat, s = sn := ⟨s.toNat, by omega⟩
  refine r_aload_n (pc := 1013) dL_law_1013 rfl (by first | rfl | exact isRefV_rf _) ?_
  refine r_iload (pc := 1014) dL_law_1014 rfl ?_
  refine rj_iconst (pc := 1016) dL_law_1016 ?_
  obtain ⟨p2, kq, pl1, pl2, pl3⟩ := oa_plan (G := G) (l := l) hI (q := sn) (by omega) (fun _ => 0)
  have po := plan_all (hI.plh hj) 61 sn _ _ _ _ pl1
  have pc := po.1
  rw [inN_held (hI.plh hj)] at pc
  have e0 : planV p2 kq (-1) = kq := by
    unfold planV
    rw [if_pos ⟨by omega, by omega⟩, if_pos (by decide)]
  refine r_callV2 (pc := 1017) dL_law_1017 qX10_plan kL_136 vX10_plan ho rfl rfl (Nat.le_of_ble_eq_true rfl) ((pl3 (i := -1) (by constructor <;> omega)).deeper (Nat.le_of_ble_eq_true rfl)) (fun v_1017 h_1017 q_1017 => ?_)
  obtain ⟨rfl, e_h⟩ := q_1017; replace e_h := e_h.symm; subst e_h
  rw [e0]
  refine r_istore (pc := 1020) dL_law_1020 (Nat.le_of_ble_eq_true rfl) ?_
  dsimp only [lsSt, List.set, mLs, mEnt]
  refine rj_iconst (pc := 1022) dL_law_1022 ?_
  refine r_istore (pc := 1023) dL_law_1023 (Nat.le_of_ble_eq_true rfl) ?_
  dsimp only [lsSt, List.set, mLs, mEnt]
  refine rj_iconst (pc := 1025) dL_law_1025 ?_
  refine r_istore (pc := 1026) dL_law_1026 (Nat.le_of_ble_eq_true rfl) ?_
  dsimp only [lsSt, List.set, mLs, mEnt]
  exact law_ploop hI hj (by omega) pl2 pl3 po kq 0 (Nat.zero_add _) (law_plan2 hG hn0 hI hj (by omega) hsg K pl2 (by omega) (by omega))
end NB
