/-! ===== by names: the outer loop (by program) ===== -/
section ND
variable {G : mG} {l : Launch} {x n0 : Nat} {h : mH} {f4 : Int} {m kpm pool : Nat → Int} {ft : Nat → Int} {b : Nat} {tn kk s : Int} {qq : Int32} {sg : Int64} {a11 a12 a13 a14 a15 : Option Value} {Q : Option Value → mH → Prop}
/-- the one that was read before -/
def LST (m : Nat → Int) (i : Nat) (u : Int) : Prop := (i = 0 ∧ u = -1) ∨ (1 ≤ i ∧ ∃ p : Nat, u = p ∧ p < (m 1).toNat ∧ heldB m p = true ∧ cnt (rkB (heldB m) (kyR m) p) (m 1).toNat = (i : Int) - 1)
set_option maxHeartbeats 4000000 in
set_option maxRecDepth 100000 in
theorem law_nloop (hI : RO x (x + 196) n0 f4 m kpm pool 0 ft h) (hj : JI m) {H : Nat} (hH : (H : Int) = cnt (heldB m) (m 1).toNat) (n i : Nat) (e : i + n = H) (u : Int) (hu : LST m i u) (a14 a15 : Option Value)
    (K : ∀ (u v w : Option Value), RUN G l 2048 mLaw 966 [some (.ref b), some (.ref x), some (.int (J 1)), some (.int (J tn)), some (.int qq), some (.int (J kk)), some (.int (J s)), some (.int (J (m 1))), some (.long sg), none, some (.int (J 0)), some (.int (J (H : Int))), u, some (.int (J (H : Int))), v, w] [] h Q) : RUN G l 2048 mLaw 810 [some (.ref b), some (.ref x), some (.int (J 1)), some (.int (J tn)), some (.int qq), some (.int (J kk)), some (.int (J s)), some (.int (J (m 1))), some (.long sg), none, some (.int (J 0)), some (.int (J (H : Int))), some (.int (J u)), some (.int (J (i : Int))), a14, a15] [] h Q := by
  obtain ⟨fs, ho⟩ := hI.gx
  obtain ⟨m0, m1, m2, m3, hh, hnc, hns, hsc⟩ := hI.b2
  have cr := cnt_r (heldB m) (m 1).toNat
  induction n generalizing i u a14 a15 with
  | zero =>
    obtain rfl : i = H := by omega
    refine r_iload (pc := 810) dL_law_810 rfl ?_
    refine r_iload (pc := 812) dL_law_812 rfl ?_
    refine rj_icmp_ge (pc := 814) (tgt := 966) dL_law_814 (by decide) (by first | exact b01_r | exact bz_r | omega | (constructor <;> omega) | apply_assumption | (apply atF_r; assumption) | fail "no range") (by first | exact b01_r | exact bz_r | omega | (constructor <;> omega) | apply_assumption | (apply atF_r; assumption) | fail "no range") (fun c_814 => ?_) (fun c_814 => ?_)
    · exact K _ _ _
    · exfalso; omega
  | succ n ih =>
    obtain ⟨q, eq, q1, q2, q3⟩ := byName_at hj rfl hI.nmk (i := (i : Int)) ⟨by omega, by omega⟩
    have q0 := of_decide_eq_true q2
    have t0 : thgV m (q : Int) 0 = 0 := by
      unfold thgV
      rw [if_pos ⟨by omega, by omega⟩, if_pos rfl, show ((q : Int)).toNat = q by omega, if_pos q0]
    have S : ∀ (u v : Option Value), RUN G l 2048 mLaw 956 [some (.ref b), some (.ref x), some (.int (J 1)), some (.int (J tn)), some (.int qq), some (.int (J kk)), some (.int (J s)), some (.int (J (m 1))), some (.long sg), none, some (.int (J 0)), some (.int (J (H : Int))), u, some (.int (J (i : Int))), some (.int (J (q : Int))), v] [] h Q := by
      intro u v
      refine r_iload (pc := 956) dL_law_956 rfl ?_
      refine r_istore (pc := 958) dL_law_958 (Nat.le_of_ble_eq_true rfl) ?_
      dsimp only [lsSt, List.set, mLs, mEnt]
      refine rj_iinc (pc := 960) dL_law_960 (Nat.le_of_ble_eq_true rfl) rfl ?_
      dsimp only [lsSt, List.set, mLs, mEnt]
      refine r_goto (pc := 963) (tgt := 810) dL_law_963 (by decide) ?_
      rw [show (i : Int) + 1 = ((i + 1 : Nat) : Int) by omega]
      exact ih (i + 1) (by omega) (q : Int) (Or.inr ⟨by omega, q, rfl, q1, q2, by omega⟩) _ _
    refine r_iload (pc := 810) dL_law_810 rfl ?_
    refine r_iload (pc := 812) dL_law_812 rfl ?_
    refine rj_icmp_ge (pc := 814) (tgt := 966) dL_law_814 (by decide) (by first | exact b01_r | exact bz_r | omega | (constructor <;> omega) | apply_assumption | (apply atF_r; assumption) | fail "no range") (by first | exact b01_r | exact bz_r | omega | (constructor <;> omega) | apply_assumption | (apply atF_r; assumption) | fail "no range") (fun c_814 => ?_) (fun c_814 => ?_)
    · exfalso; omega
    · refine r_aload_n (pc := 817) dL_law_817 rfl (by first | rfl | exact isRefV_rf _) ?_
      refine r_iload (pc := 818) dL_law_818 rfl ?_
      refine r_callV1 (pc := 820) dL_law_820 qX10_byName kL_158 vX10_byName ho rfl rfl (Nat.le_of_ble_eq_true rfl) ((oa_byName hI (a := (i : Int)) (by constructor <;> omega)).deeper (Nat.le_of_ble_eq_true rfl)) (fun v_820 h_820 q_820 => ?_)
      obtain ⟨rfl, e_h⟩ := q_820; replace e_h := e_h.symm; subst e_h
      rw [eq]
      refine r_istore (pc := 823) dL_law_823 (Nat.le_of_ble_eq_true rfl) ?_
      dsimp only [lsSt, List.set, mLs, mEnt]
      refine r_iload_n (pc := 825) dL_law_825 rfl ?_
      refine r_iload (pc := 826) dL_law_826 rfl ?_
      refine rj_if_lt (pc := 828) (tgt := 845) dL_law_828 (by decide) (by first | exact b01_r | exact bz_r | omega | (constructor <;> omega) | apply_assumption | (apply atF_r; assumption) | fail "no range") (fun c_828 => ?_) (fun c_828 => ?_)
      · exfalso; first | omega | contradiction | (simp at *; done)
      · refine r_aload_n (pc := 831) dL_law_831 rfl (by first | rfl | exact isRefV_rf _) ?_
        refine r_iload (pc := 832) dL_law_832 rfl ?_
        refine rj_iconst (pc := 834) dL_law_834 ?_
        refine r_callV2 (pc := 835) dL_law_835 qX10_thing kL_53 vX10_thing ho rfl rfl (Nat.le_of_ble_eq_true rfl) ((oa_thing hI (a := (q : Int)) (by constructor <;> omega) (i := 0) (by omega)).deeper (Nat.le_of_ble_eq_true rfl)) (fun v_835 h_835 q_835 => ?_)
        obtain ⟨rfl, e_h⟩ := q_835; replace e_h := e_h.symm; subst e_h
        rw [t0]
        refine rj_if_ne (pc := 838) (tgt := 845) dL_law_838 (by decide) (by first | exact b01_r | exact bz_r | omega | (constructor <;> omega) | apply_assumption | (apply atF_r; assumption) | fail "no range") (fun c_838 => ?_) (fun c_838 => ?_)
        · try simp only [b01_0, bz_0, Classical.not_not] at c_838
          exfalso; first | omega | contradiction | (simp at *; done)
        · try simp only [b01_0, bz_0, Classical.not_not] at c_838
          refine rj_iconst (pc := 841) dL_law_841 ?_
          refine r_goto (pc := 842) (tgt := 846) dL_law_842 (by decide) ?_
          refine rj_and1 (pc := 846) dL_law_846 ?_
          refine r_istore_n (pc := 847) dL_law_847 (Nat.le_of_ble_eq_true rfl) ?_
          dsimp only [lsSt, List.set, mLs, mEnt]
          refine r_iload (pc := 848) dL_law_848 rfl ?_
          refine rj_if_le (pc := 850) (tgt := 956) dL_law_850 (by decide) (by first | exact b01_r | exact bz_r | omega | (constructor <;> omega) | apply_assumption | (apply atF_r; assumption) | fail "no range") (fun c_850 => ?_) (fun c_850 => ?_)
          · exact S _ _
          · refine r_iload_n (pc := 853) dL_law_853 rfl ?_
            refine rj_if_eq (pc := 854) (tgt := 956) dL_law_854 (by decide) (by first | exact b01_r | exact bz_r | omega | (constructor <;> omega) | apply_assumption | (apply atF_r; assumption) | fail "no range") (fun c_854 => ?_) (fun c_854 => ?_)
            · try simp only [b01_0, bz_0, Classical.not_not] at c_854
              exfalso; first | omega | contradiction | (simp at *; done)
            · try simp only [b01_0, bz_0, Classical.not_not] at c_854
              refine rj_iconst (pc := 857) dL_law_857 ?_
              refine r_istore (pc := 858) dL_law_858 (Nat.le_of_ble_eq_true rfl) ?_
              dsimp only [lsSt, List.set, mLs, mEnt]
              rcases hu with ⟨u1, -⟩ | ⟨u1, p, rfl, p1, p2, p3⟩
              · exfalso; omega
              · have lx := byName_lex hj rfl hI.nmk p1 q1 p2 q2 (by omega)
                have np := (hI.nmk p (by omega)).1
                have nq := (hI.nmk q (by omega)).1
                obtain ⟨A, A1, A2, A3⟩ := lex_A lx (by omega) (by omega)
                refine law_nl hI (by omega) (by omega) A1 A2 (by rcases A3 with z | z; exact Or.inl z.1; exact Or.inr ⟨z.1, z.2.1, by omega⟩) A 0 (Nat.zero_add _) ?_
                rw [Nat.zero_add]
                exact law_nc hI (by omega) (by omega) A1 A3 (S _ _)
set_option maxHeartbeats 4000000 in
set_option maxRecDepth 100000 in
theorem law_nend (hG : G.2.map Prod.snd = mTy) (hn0 : n0 ≤ 500) (hI : RO x (x + 196) n0 f4 m kpm pool 0 ft h) (hj : JI m) (hs : 0 ≤ s ∧ s ≤ m 0 - 1) (hsg : sgt m = sg) (K : TLK G l x n0 b h tn kk s (m 1) qq sg Q) {H : Nat} (hH : (H : Int) = cnt (heldB m) (m 1).toNat) : RUN G l 2048 mLaw 966 [some (.ref b), some (.ref x), some (.int (J 1)), some (.int (J tn)), some (.int qq), some (.int (J kk)), some (.int (J s)), some (.int (J (m 1))), some (.long sg), none, some (.int (J 0)), some (.int (J (H : Int))), a12, a13, a14, a15] [] h Q := by
  obtain ⟨fs, ho⟩ := hI.gx
  obtain ⟨m0, m1, m2, m3, hh, hnc, hns, hsc⟩ := hI.b2
  have cr := cnt_r (heldB m) (m 1).toNat
  refine r_iload_n (pc := 966) dL_law_966 rfl ?_
  refine r_aload_n (pc := 967) dL_law_967 rfl (by first | rfl | exact isRefV_rf _) ?_
  refine r_iload (pc := 968) dL_law_968 rfl ?_
  refine r_callV1 (pc := 970) dL_law_970 qX10_byName kL_158 vX10_byName ho rfl rfl (Nat.le_of_ble_eq_true rfl) ((oa_byName hI (a := (H : Int)) (by constructor <;> omega)).deeper (Nat.le_of_ble_eq_true rfl)) (fun v_970 h_970 q_970 => ?_)
  obtain ⟨rfl, e_h⟩ := q_970; replace e_h := e_h.symm; subst e_h
  rw [byName_no hj rfl hI.nmk (i := (H : Int)) (Or.inr (by omega))]
  refine rj_iconst (pc := 973) dL_law_973 ?_
  refine rj_icmp_ne (pc := 974) (tgt := 1000) dL_law_974 (by decide) (by first | exact b01_r | exact bz_r | omega | (constructor <;> omega) | apply_assumption | (apply atF_r; assumption) | fail "no range") (by first | exact b01_r | exact bz_r | omega | (constructor <;> omega) | apply_assumption | (apply atF_r; assumption) | fail "no range") (fun c_974 => ?_) (fun c_974 => ?_)
  · exfalso; first | omega | contradiction | (simp at *; done)
  · refine r_aload_n (pc := 977) dL_law_977 rfl (by first | rfl | exact isRefV_rf _) ?_
    refine rj_iconst (pc := 978) dL_law_978 ?_
    refine r_callV1 (pc := 979) dL_law_979 qX10_byName kL_158 vX10_byName ho rfl rfl (Nat.le_of_ble_eq_true rfl) ((oa_byName hI (a := -1) (by constructor <;> omega)).deeper (Nat.le_of_ble_eq_true rfl)) (fun v_979 h_979 q_979 => ?_)
    obtain ⟨rfl, e_h⟩ := q_979; replace e_h := e_h.symm; subst e_h
    rw [byName_no hj rfl hI.nmk (i := -1) (Or.inl (by decide))]
    refine rj_iconst (pc := 982) dL_law_982 ?_
    refine rj_icmp_ne (pc := 983) (tgt := 1000) dL_law_983 (by decide) (by first | exact b01_r | exact bz_r | omega | (constructor <;> omega) | apply_assumption | (apply atF_r; assumption) | fail "no range") (by first | exact b01_r | exact bz_r | omega | (constructor <;> omega) | apply_assumption | (apply atF_r; assumption) | fail "no range") (fun c_983 => ?_) (fun c_983 => ?_)
    · exfalso; first | omega | contradiction | (simp at *; done)
    · refine r_aload_n (pc := 986) dL_law_986 rfl (by first | rfl | exact isRefV_rf _) ?_
      refine r_callS1 (pc := 987) dL_law_987 qL_sight kL_94 sL_sight (Nat.le_of_ble_eq_true rfl) ((jl_sight hI).deeper (Nat.le_of_ble_eq_true rfl)) (fun v_987 h_987 q_987 => ?_)
      obtain ⟨rfl, e_h⟩ := q_987; replace e_h := e_h.symm; subst e_h
      refine r_lload (pc := 990) dL_law_990 rfl ?_
      refine r_lcmp (pc := 992) dL_law_992 ?_
      rw [hsg, lcmp_self]
      refine rj_if_ne (pc := 993) (tgt := 1000) dL_law_993 (by decide) (by first | exact b01_r | exact bz_r | omega | (constructor <;> omega) | apply_assumption | (apply atF_r; assumption) | fail "no range") (fun c_993 => ?_) (fun c_993 => ?_)
      · try simp only [b01_0, bz_0, Classical.not_not] at c_993
        exfalso; first | omega | contradiction | (simp at *; done)
      · try simp only [b01_0, bz_0, Classical.not_not] at c_993
        refine rj_iconst (pc := 996) dL_law_996 ?_
        refine r_goto (pc := 997) (tgt := 1001) dL_law_997 (by decide) ?_
        refine rj_and1 (pc := 1001) dL_law_1001 ?_
        refine r_istore_n (pc := 1002) dL_law_1002 (Nat.le_of_ble_eq_true rfl) ?_
        dsimp only [lsSt, List.set, mLs, mEnt]
        refine r_goto (pc := 1003) (tgt := 1216) dL_law_1003 (by decide) ?_
        exact K _ _ _ _ _ _ _ 0 _ _ _ _ _ hI hj (by omega) GRW.rf (by constructor <;> omega) (Or.inl (Int.le_refl _))
set_option maxHeartbeats 4000000 in
set_option maxRecDepth 100000 in
theorem law_names (hG : G.2.map Prod.snd = mTy) (hn0 : n0 ≤ 500) (hI : RO x (x + 196) n0 f4 m kpm pool 0 ft h) (hj : JI m) (hs : 0 ≤ s ∧ s ≤ m 0 - 1) (hsg : sgt m = sg) (K : TLK G l x n0 b h tn kk s (m 1) qq sg Q) : RUN G l 2048 mLaw 797 [some (.ref b), some (.ref x), some (.int (J 1)), some (.int (J tn)), some (.int qq), some (.int (J kk)), some (.int (J s)), some (.int (J (m 1))), some (.long sg), none, some (.int (J 0)), a11, a12, a13, a14, a15] [] h Q := by
  obtain ⟨fs, ho⟩ := hI.gx
  obtain ⟨m0, m1, m2, m3, hh, hnc, hns, hsc⟩ := hI.b2
  refine r_aload_n (pc := 797) dL_law_797 rfl (by first | rfl | exact isRefV_rf _) ?_
  refine rj_iconst (pc := 798) dL_law_798 ?_
  obtain ⟨H, hH⟩ : ∃ H : Nat, (H : Int) = cnt (heldB m) (m 1).toNat := ⟨(cnt (heldB m) (m 1).toNat).toNat, by have := cnt_r (heldB m) (m 1).toNat; omega⟩
  refine r_callV1 (pc := 799) dL_law_799 qX10_told kL_43 vX10_told ho rfl rfl (Nat.le_of_ble_eq_true rfl) ((oa_tld hI (k := 3) (by omega)).deeper (Nat.le_of_ble_eq_true rfl)) (fun v_799 h_799 q_799 => ?_)
  obtain ⟨rfl, e_h⟩ := q_799; replace e_h := e_h.symm; subst e_h
  rw [show toldV m 0 0 (m 1).toNat (m 0).toNat (m 3).toNat 3 = cnt (heldB m) (m 1).toNat from rfl]
  rw [← hH]
  refine r_istore (pc := 802) dL_law_802 (Nat.le_of_ble_eq_true rfl) ?_
  dsimp only [lsSt, List.set, mLs, mEnt]
  refine rj_iconst (pc := 804) dL_law_804 ?_
  refine r_istore (pc := 805) dL_law_805 (Nat.le_of_ble_eq_true rfl) ?_
  dsimp only [lsSt, List.set, mLs, mEnt]
  refine rj_iconst (pc := 807) dL_law_807 ?_
  refine r_istore (pc := 808) dL_law_808 (Nat.le_of_ble_eq_true rfl) ?_
  dsimp only [lsSt, List.set, mLs, mEnt]
  exact law_nloop hI hj hH H 0 (Nat.zero_add _) (-1) (Or.inl ⟨rfl, rfl⟩) _ _ (fun u v w => law_nend hG hn0 hI hj hs hsg K hH)
end ND
