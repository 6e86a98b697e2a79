/-! ===== by names (by program) ===== -/
section NC_
variable {G : mG} {l : Launch} {x n0 : Nat} {h : mH} {f4 : Int} {m kpm pool : Nat → Int} {ft : Nat → Int} {b : Nat} {tn kk s : Int} {qq : Int32} {sg : Int64} {a11 a12 a13 a14 a15 : Option Value} {Q : Option Value → mH → Prop}
theorem nv_len {p : Nat} (hp : (p : Int) < m 1) (h : 0 ≤ m (261 + 14 * p)) : nameV m (p : Int) (-1) = m (261 + 14 * p) := by
  unfold nameV
  rw [show ((261 : Int) + 14 * (p : Int)).toNat = 261 + 14 * p by omega, if_pos ⟨⟨by omega, by omega⟩, by omega, by omega⟩, if_pos (by decide)]
theorem nv_at {p i : Nat} (hp : (p : Int) < m 1) (h : (i : Int) < m (261 + 14 * p)) : nameV m (p : Int) (i : Int) = m (265 + 14 * p + i) := by
  unfold nameV
  rw [show ((261 : Int) + 14 * (p : Int)).toNat = 261 + 14 * p by omega, if_pos ⟨⟨by omega, by omega⟩, by omega, by omega⟩, if_neg (by omega), show ((265 : Int) + 14 * (p : Int) + (i : Int)).toNat = 265 + 14 * p + i by omega]
set_option maxHeartbeats 4000000 in
set_option maxRecDepth 100000 in
theorem law_nl (hI : RO x (x + 196) n0 f4 m kpm pool 0 ft h) {p q : Nat} (hp : (p : Int) < m 1) (hq : (q : Int) < m 1) {A : Nat} (hA1 : (A : Int) ≤ m (261 + 14 * p)) (hA2 : ∀ i, i < A → m (265 + 14 * p + i) = m (265 + 14 * q + i) ∧ (i : Int) < m (261 + 14 * q)) (hA3 : (A : Int) = m (261 + 14 * p) ∨ ((A : Int) < m (261 + 14 * p) ∧ (A : Int) < m (261 + 14 * q) ∧ ¬ m (265 + 14 * p + A) = m (265 + 14 * q + A))) (n j : Nat) (e : j + n = A)
    (K : RUN G l 2048 mLaw 897 [some (.ref b), some (.ref x), some (.int (J 1)), some (.int (J tn)), some (.int qq), some (.int (J kk)), some (.int (J s)), some (.int (J (m 1))), some (.long sg), none, some (.int (J 0)), a11, some (.int (J (p : Int))), a13, some (.int (J (q : Int))), some (.int (J ((j + n : Nat) : Int)))] [] h Q) : RUN G l 2048 mLaw 860 [some (.ref b), some (.ref x), some (.int (J 1)), some (.int (J tn)), some (.int qq), some (.int (J kk)), some (.int (J s)), some (.int (J (m 1))), some (.long sg), none, some (.int (J 0)), a11, some (.int (J (p : Int))), a13, some (.int (J (q : Int))), some (.int (J (j : Int)))] [] h Q := by
  obtain ⟨fs, ho⟩ := hI.gx
  obtain ⟨m0, m1, m2, m3, hh, hnc, hns, hsc⟩ := hI.b2
  obtain ⟨B0_, T0_, hA_, -, -⟩ := hI.rows
  have hR := hA_.1.1.1.1
  have np := (hI.nmk p hp).1
  have nq := (hI.nmk q hq).1
  induction n generalizing j with
  | zero =>
    obtain rfl : j = A := by omega
    refine r_iload (pc := 860) dL_law_860 rfl ?_
    refine r_aload_n (pc := 862) dL_law_862 rfl (by first | rfl | exact isRefV_rf _) ?_
    refine r_iload (pc := 863) dL_law_863 rfl ?_
    refine rj_iconst (pc := 865) dL_law_865 ?_
    refine r_callV2 (pc := 866) dL_law_866 qX10_name kL_161 vX10_name ho rfl rfl (Nat.le_of_ble_eq_true rfl) ((oa_name hI (a := (p : Int)) (by constructor <;> omega) (i := -1) (by constructor <;> omega)).deeper (Nat.le_of_ble_eq_true rfl)) (fun v_866 h_866 q_866 => ?_)
    obtain ⟨rfl, e_h⟩ := q_866; replace e_h := e_h.symm; subst e_h
    rw [nv_len hp (by omega)]
    refine rj_icmp_ge (pc := 869) (tgt := 897) dL_law_869 (by decide) (by first | exact b01_r | exact bz_r | omega | (constructor <;> omega) | apply_assumption | (apply atF_r; assumption) | fail "no range") (by first | exact b01_r | exact bz_r | omega | (constructor <;> omega) | apply_assumption | (apply atF_r; assumption) | fail "no range") (fun c_869 => ?_) (fun c_869 => ?_)
    · exact K
    · refine r_aload_n (pc := 872) dL_law_872 rfl (by first | rfl | exact isRefV_rf _) ?_
      refine r_iload (pc := 873) dL_law_873 rfl ?_
      refine r_iload (pc := 875) dL_law_875 rfl ?_
      have a3 : (j : Int) < m (261 + 14 * p) ∧ (j : Int) < m (261 + 14 * q) ∧ ¬ m (265 + 14 * p + j) = m (265 + 14 * q + j) := by
        rcases hA3 with z | z
        · omega
        · exact z
      refine r_callV2 (pc := 877) dL_law_877 qX10_name kL_161 vX10_name ho rfl rfl (Nat.le_of_ble_eq_true rfl) ((oa_name hI (a := (p : Int)) (by constructor <;> omega) (i := (j : Int)) (by constructor <;> omega)).deeper (Nat.le_of_ble_eq_true rfl)) (fun v_877 h_877 q_877 => ?_)
      obtain ⟨rfl, e_h⟩ := q_877; replace e_h := e_h.symm; subst e_h
      rw [nv_at hp a3.1]
      refine r_aload_n (pc := 880) dL_law_880 rfl (by first | rfl | exact isRefV_rf _) ?_
      refine r_iload (pc := 881) dL_law_881 rfl ?_
      refine r_iload (pc := 883) dL_law_883 rfl ?_
      refine r_callV2 (pc := 885) dL_law_885 qX10_name kL_161 vX10_name ho rfl rfl (Nat.le_of_ble_eq_true rfl) ((oa_name hI (a := (q : Int)) (by constructor <;> omega) (i := (j : Int)) (by constructor <;> omega)).deeper (Nat.le_of_ble_eq_true rfl)) (fun v_885 h_885 q_885 => ?_)
      obtain ⟨rfl, e_h⟩ := q_885; replace e_h := e_h.symm; subst e_h
      rw [nv_at hq a3.2.1]
      refine rj_icmp_ne (pc := 888) (tgt := 897) dL_law_888 (by decide) (by first | exact b01_r | exact bz_r | omega | (constructor <;> omega) | apply_assumption | (apply atF_r; assumption) | fail "no range") (by first | exact b01_r | exact bz_r | omega | (constructor <;> omega) | apply_assumption | (apply atF_r; assumption) | fail "no range") (fun c_888 => ?_) (fun c_888 => ?_)
      · exact K
      · exact absurd (by assumption) a3.2.2
  | succ n ih =>
    have a2 := hA2 j (by omega)
    refine r_iload (pc := 860) dL_law_860 rfl ?_
    refine r_aload_n (pc := 862) dL_law_862 rfl (by first | rfl | exact isRefV_rf _) ?_
    refine r_iload (pc := 863) dL_law_863 rfl ?_
    refine rj_iconst (pc := 865) dL_law_865 ?_
    refine r_callV2 (pc := 866) dL_law_866 qX10_name kL_161 vX10_name ho rfl rfl (Nat.le_of_ble_eq_true rfl) ((oa_name hI (a := (p : Int)) (by constructor <;> omega) (i := -1) (by constructor <;> omega)).deeper (Nat.le_of_ble_eq_true rfl)) (fun v_866 h_866 q_866 => ?_)
    obtain ⟨rfl, e_h⟩ := q_866; replace e_h := e_h.symm; subst e_h
    rw [nv_len hp (by omega)]
    refine rj_icmp_ge (pc := 869) (tgt := 897) dL_law_869 (by decide) (by first | exact b01_r | exact bz_r | omega | (constructor <;> omega) | apply_assumption | (apply atF_r; assumption) | fail "no range") (by first | exact b01_r | exact bz_r | omega | (constructor <;> omega) | apply_assumption | (apply atF_r; assumption) | fail "no range") (fun c_869 => ?_) (fun c_869 => ?_)
    · exfalso; first | omega | contradiction | (simp at *; done)
    · refine r_aload_n (pc := 872) dL_law_872 rfl (by first | rfl | exact isRefV_rf _) ?_
      refine r_iload (pc := 873) dL_law_873 rfl ?_
      refine r_iload (pc := 875) dL_law_875 rfl ?_
      refine r_callV2 (pc := 877) dL_law_877 qX10_name kL_161 vX10_name ho rfl rfl (Nat.le_of_ble_eq_true rfl) ((oa_name hI (a := (p : Int)) (by constructor <;> omega) (i := (j : Int)) (by constructor <;> omega)).deeper (Nat.le_of_ble_eq_true rfl)) (fun v_877 h_877 q_877 => ?_)
      obtain ⟨rfl, e_h⟩ := q_877; replace e_h := e_h.symm; subst e_h
      rw [nv_at hp (by omega)]
      refine r_aload_n (pc := 880) dL_law_880 rfl (by first | rfl | exact isRefV_rf _) ?_
      refine r_iload (pc := 881) dL_law_881 rfl ?_
      refine r_iload (pc := 883) dL_law_883 rfl ?_
      refine r_callV2 (pc := 885) dL_law_885 qX10_name kL_161 vX10_name ho rfl rfl (Nat.le_of_ble_eq_true rfl) ((oa_name hI (a := (q : Int)) (by constructor <;> omega) (i := (j : Int)) (by constructor <;> omega)).deeper (Nat.le_of_ble_eq_true rfl)) (fun v_885 h_885 q_885 => ?_)
      obtain ⟨rfl, e_h⟩ := q_885; replace e_h := e_h.symm; subst e_h
      rw [nv_at hq a2.2]
      rw [a2.1]
      refine rj_icmp_ne (pc := 888) (tgt := 897) dL_law_888 (by decide) (by first | exact b01_r | exact bz_r | omega | (constructor <;> omega) | apply_assumption | (apply atF_r; assumption) | fail "no range") (by first | exact b01_r | exact bz_r | omega | (constructor <;> omega) | apply_assumption | (apply atF_r; assumption) | fail "no range") (fun c_888 => ?_) (fun c_888 => ?_)
      · exfalso; first | omega | contradiction | (simp at *; done)
      · refine rj_iinc (pc := 891) dL_law_891 (Nat.le_of_ble_eq_true rfl) rfl ?_
        dsimp only [lsSt, List.set, mLs, mEnt]
        refine r_goto (pc := 894) (tgt := 860) dL_law_894 (by decide) ?_
        rw [show (j : Int) + 1 = ((j + 1 : Nat) : Int) by omega]
        refine ih (j + 1) (by omega) ?_
        rw [show j + 1 + n = j + (n + 1) by omega]
        exact K
set_option maxHeartbeats 4000000 in
set_option maxRecDepth 100000 in
theorem law_nc (hI : RO x (x + 196) n0 f4 m kpm pool 0 ft h) {p q : Nat} (hp : (p : Int) < m 1) (hq : (q : Int) < m 1) {A : Nat} (hA1 : (A : Int) ≤ m (261 + 14 * p)) (hA3 : ((A : Int) = m (261 + 14 * p) ∧ (A : Int) < m (261 + 14 * q)) ∨ ((A : Int) < m (261 + 14 * p) ∧ (A : Int) < m (261 + 14 * q) ∧ m (265 + 14 * p + A) < m (265 + 14 * q + A)))
    (K : RUN G l 2048 mLaw 956 [some (.ref b), some (.ref x), some (.int (J 1)), some (.int (J tn)), some (.int qq), some (.int (J kk)), some (.int (J s)), some (.int (J (m 1))), some (.long sg), none, some (.int (J 0)), a11, some (.int (J (p : Int))), a13, some (.int (J (q : Int))), some (.int (J (A : Int)))] [] h Q) : RUN G l 2048 mLaw 897 [some (.ref b), some (.ref x), some (.int (J 1)), some (.int (J tn)), some (.int qq), some (.int (J kk)), some (.int (J s)), some (.int (J (m 1))), some (.long sg), none, some (.int (J 0)), a11, some (.int (J (p : Int))), a13, some (.int (J (q : Int))), some (.int (J (A : Int)))] [] h Q := by
  obtain ⟨fs, ho⟩ := hI.gx
  obtain ⟨m0, m1, m2, m3, hh, hnc, hns, hsc⟩ := hI.b2
  obtain ⟨B0_, T0_, hA_, -, -⟩ := hI.rows
  have hR := hA_.1.1.1.1
  have np := (hI.nmk p hp).1
  have nq := (hI.nmk q hq).1
  refine r_iload_n (pc := 897) dL_law_897 rfl ?_
  refine r_iload (pc := 898) dL_law_898 rfl ?_
  refine r_aload_n (pc := 900) dL_law_900 rfl (by first | rfl | exact isRefV_rf _) ?_
  refine r_iload (pc := 901) dL_law_901 rfl ?_
  refine rj_iconst (pc := 903) dL_law_903 ?_
  refine r_callV2 (pc := 904) dL_law_904 qX10_name kL_161 vX10_name ho rfl rfl (Nat.le_of_ble_eq_true rfl) ((oa_name hI (a := (p : Int)) (by constructor <;> omega) (i := -1) (by constructor <;> omega)).deeper (Nat.le_of_ble_eq_true rfl)) (fun v_904 h_904 q_904 => ?_)
  obtain ⟨rfl, e_h⟩ := q_904; replace e_h := e_h.symm; subst e_h
  rw [nv_len hp (by omega)]
  refine rj_icmp_ne (pc := 907) (tgt := 930) dL_law_907 (by decide) (by first | exact b01_r | exact bz_r | omega | (constructor <;> omega) | apply_assumption | (apply atF_r; assumption) | fail "no range") (by first | exact b01_r | exact bz_r | omega | (constructor <;> omega) | apply_assumption | (apply atF_r; assumption) | fail "no range") (fun c_907 => ?_) (fun c_907 => ?_)
  · refine r_aload_n (pc := 930) dL_law_930 rfl (by first | rfl | exact isRefV_rf _) ?_
    refine r_iload (pc := 931) dL_law_931 rfl ?_
    refine r_iload (pc := 933) dL_law_933 rfl ?_
    have a3 : (A : Int) < m (261 + 14 * p) ∧ (A : Int) < m (261 + 14 * q) ∧ m (265 + 14 * p + A) < m (265 + 14 * q + A) := by
      rcases hA3 with z | z
      · omega
      · exact z
    refine r_callV2 (pc := 935) dL_law_935 qX10_name kL_161 vX10_name ho rfl rfl (Nat.le_of_ble_eq_true rfl) ((oa_name hI (a := (p : Int)) (by constructor <;> omega) (i := (A : Int)) (by constructor <;> omega)).deeper (Nat.le_of_ble_eq_true rfl)) (fun v_935 h_935 q_935 => ?_)
    obtain ⟨rfl, e_h⟩ := q_935; replace e_h := e_h.symm; subst e_h
    rw [nv_at hp a3.1]
    refine r_aload_n (pc := 938) dL_law_938 rfl (by first | rfl | exact isRefV_rf _) ?_
    refine r_iload (pc := 939) dL_law_939 rfl ?_
    refine r_iload (pc := 941) dL_law_941 rfl ?_
    refine r_callV2 (pc := 943) dL_law_943 qX10_name kL_161 vX10_name ho rfl rfl (Nat.le_of_ble_eq_true rfl) ((oa_name hI (a := (q : Int)) (by constructor <;> omega) (i := (A : Int)) (by constructor <;> omega)).deeper (Nat.le_of_ble_eq_true rfl)) (fun v_943 h_943 q_943 => ?_)
    obtain ⟨rfl, e_h⟩ := q_943; replace e_h := e_h.symm; subst e_h
    rw [nv_at hq a3.2.1]
    refine rj_icmp_ge (pc := 946) (tgt := 953) dL_law_946 (by decide) (by first | exact b01_r | exact bz_r | omega | (constructor <;> omega) | apply_assumption | (apply atF_r; assumption) | fail "no range") (by first | exact b01_r | exact bz_r | omega | (constructor <;> omega) | apply_assumption | (apply atF_r; assumption) | fail "no range") (fun c_946 => ?_) (fun c_946 => ?_)
    · exfalso; omega
    · refine rj_iconst (pc := 949) dL_law_949 ?_
      refine r_goto (pc := 950) (tgt := 954) dL_law_950 (by decide) ?_
      refine rj_and1 (pc := 954) dL_law_954 ?_
      refine r_istore_n (pc := 955) dL_law_955 (Nat.le_of_ble_eq_true rfl) ?_
      dsimp only [lsSt, List.set, mLs, mEnt]
      exact K
  · refine r_aload_n (pc := 910) dL_law_910 rfl (by first | rfl | exact isRefV_rf _) ?_
    refine r_iload (pc := 911) dL_law_911 rfl ?_
    refine rj_iconst (pc := 913) dL_law_913 ?_
    refine r_callV2 (pc := 914) dL_law_914 qX10_name kL_161 vX10_name ho rfl rfl (Nat.le_of_ble_eq_true rfl) ((oa_name hI (a := (q : Int)) (by constructor <;> omega) (i := -1) (by constructor <;> omega)).deeper (Nat.le_of_ble_eq_true rfl)) (fun v_914 h_914 q_914 => ?_)
    obtain ⟨rfl, e_h⟩ := q_914; replace e_h := e_h.symm; subst e_h
    rw [nv_len hq (by omega)]
    refine r_iload (pc := 917) dL_law_917 rfl ?_
    refine rj_icmp_le (pc := 919) (tgt := 926) dL_law_919 (by decide) (by first | exact b01_r | exact bz_r | omega | (constructor <;> omega) | apply_assumption | (apply atF_r; assumption) | fail "no range") (by first | exact b01_r | exact bz_r | omega | (constructor <;> omega) | apply_assumption | (apply atF_r; assumption) | fail "no range") (fun c_919 => ?_) (fun c_919 => ?_)
    · exfalso; omega
    · refine rj_iconst (pc := 922) dL_law_922 ?_
      refine r_goto (pc := 923) (tgt := 954) dL_law_923 (by decide) ?_
      refine rj_and1 (pc := 954) dL_law_954 ?_
      refine r_istore_n (pc := 955) dL_law_955 (Nat.le_of_ble_eq_true rfl) ?_
      dsimp only [lsSt, List.set, mLs, mEnt]
      exact K
theorem lex_A {x y : Nat → Int} {a b : Int} (h : lexP x y a b (agN a b)) (ha : 0 ≤ a) (hb : 0 ≤ b) : ∃ A : Nat, (A : Int) ≤ a ∧ (∀ i, i < A → x i = y i ∧ (i : Int) < b) ∧ (((A : Int) = a ∧ (A : Int) < b) ∨ ((A : Int) < a ∧ (A : Int) < b ∧ x A < y A)) := by
  have z : (agN a b : Int) ≤ a ∧ (agN a b : Int) ≤ b := by unfold agN; split <;> omega
  rcases h with ⟨j, h1, h2, h3⟩ | ⟨h1, h2⟩
  · exact ⟨j, by omega, fun i hi => ⟨h2 i hi, by omega⟩, Or.inr ⟨by omega, by omega, h3⟩⟩
  · have z2 : (agN a b : Int) = a := by unfold agN; rw [if_pos (by omega)]; omega
    exact ⟨agN a b, by omega, fun i hi => ⟨h1 i hi, by omega⟩, Or.inl ⟨z2, by omega⟩⟩
end NC_
