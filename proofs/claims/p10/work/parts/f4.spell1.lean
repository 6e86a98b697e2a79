/-! ===== the class: the speller ===== -/
theorem J_div {x y : Int} (hx : InR x) (hy : InR y) (h0 : 0 ≤ x) : J x / J y = J (x / y) := by
  rw [J_def, J_def, J_def, ← Int.tdiv_eq_ediv_of_nonneg h0]
  exact (Int32.ofInt_tdiv (by show (-2147483648 : Int) ≤ x; omega) (by show x ≤ (2147483647 : Int); omega) (by show (-2147483648 : Int) ≤ y; omega) (by show y ≤ (2147483647 : Int); omega)).symm
theorem J_nz {y : Int} (hy : InR y) (h : ¬ y = 0) : ¬ J y = 0 := by
  rw [J_0, J_inj hy (by decide)]
  exact h
def SH : Type := (Nat → Int) × Int
def ap1 (s : (Nat → Int) × Int) (v : Int) : (Nat → Int) × Int := if 0 ≤ s.2 ∧ s.2 < 120 then (updI s.1 s.2.toNat v, s.2 + 1) else s
def apS (s : (Nat → Int) × Int) : List Int → (Nat → Int) × Int
  | [] => s
  | v :: L => apS (ap1 s v) L
theorem apS_a (s : (Nat → Int) × Int) : ∀ (L M : List Int), apS s (L ++ M) = apS (apS s L) M := by
  intro L
  induction L generalizing s with
  | nil => intro M; rfl
  | cons v L ih => intro M; exact ih (ap1 s v) M
def shOk (s : (Nat → Int) × Int) : Prop := 0 ≤ s.2 ∧ s.2 ≤ 120
theorem ap1_ok {s : (Nat → Int) × Int} {v : Int} (h : shOk s) : shOk (ap1 s v) := by
  unfold shOk at h ⊢
  unfold ap1
  split
  · show 0 ≤ s.2 + 1 ∧ s.2 + 1 ≤ 120; omega
  · exact h
theorem apS_ok : ∀ (L : List Int) (s : (Nat → Int) × Int), shOk s → shOk (apS s L)
  | [], _, h => h
  | _ :: L, _, h => apS_ok L _ (ap1_ok h)
def isSs (h : mH) (a : Nat) (s : (Nat → Int) × Int) : Prop := isSp h a s.2 s.1 ∧ shOk s
theorem isSs.gx {h : mH} {a : Nat} {s : (Nat → Int) × Int} (k : isSs h a s) : hGet h a = some (.inl (5, [.ref (rA a 1)])) := k.1.gx
theorem isSs.gi {h : mH} {a : Nat} {s : (Nat → Int) × Int} (k : isSs h a s) : hGet h (rA a 1) = some (.inl (1, [.ref (rA a 1 + 1), .int (J s.2)])) := k.1.i.gx
theorem cs_app {G : mG} {l : Launch} (d : Nat) {h : mH} {a : Nat} {s : (Nat → Int) × Int} (I : isSs h a s) (x : Int) : RUNM G l d mX1_append [.ref (rA a 1), .int (J x)] h (fun v h' => (∃ b : Int, v = some (.int (J b))) ∧ isSs h' a (ap1 s x) ∧ Same (dBlk a) h h') := by
  have r := I.2
  unfold shOk at r
  refine (ci_append d I.1.i (by decide) ⟨by omega, by omega⟩ x).mono (fun v h' q => ⟨⟨_, q.1⟩, ⟨?_, ap1_ok I.2⟩, q.2.2.mono (fun b hb => i_dBlk hb)⟩)
  have k := I.1.ofI q.2.2 q.2.1
  unfold ap1
  by_cases c : 0 ≤ s.2 ∧ s.2 < 120
  · rw [if_pos c]
    rw [if_pos (by omega), if_pos (by omega)] at k
    exact k
  · rw [if_neg c]
    rw [if_neg (by omega), if_neg (by omega)] at k
    exact k
noncomputable def nmF (y : Int64) : Nat → Nat → List Int
  | 0, _ => []
  | n + 1, i => letV y i :: nmF y n (i + 1)
noncomputable def nmLs (y : Int64) : List Int := nmF y (lnL y 7 0).toNat 0
theorem lnL_r7 {y : Int64} : ∀ n t : Nat, 0 ≤ lnL y n t ∧ lnL y n t ≤ t + n
  | 0, t => by unfold lnL; omega
  | n + 1, t => by
    have := lnL_r7 (y := y) n (t + 1)
    unfold lnL
    split <;> omega
set_option maxHeartbeats 4000000 in
set_option maxRecDepth 100000 in
theorem L_wName {G : mG} {l : Launch} (d : Nat) {a : Nat} {y : Int64} {N : Nat} (hN : lnL y 7 0 = (N : Int)) (h7 : N ≤ 7) : ∀ (n i : Nat) (h : mH) (s : (Nat → Int) × Int), i + n = N → isSs h a s → RUN G l (d + 2) mX5_writeName 2 [some (.ref a), some (.long y), none, some (.int (J (i : Int)))] [] h (fun v h' => v = none ∧ isSs h' a (apS s (nmF y n i)) ∧ Same (dBlk a) h h') := by
  intro n
  induction n with
  | zero =>
    intro i h s hi I
    refine r_iload_n (pc := 2) dX5_writeName_2 rfl ?_
    refine r_lload_n (pc := 3) dX5_writeName_3 rfl ?_
    refine r_callS1 (pc := 4) dX5_writeName_4 qX10_lettersOf kX5_70 sX10_lettersOf (Nat.le_of_ble_eq_true rfl) (cz_lettersOf _ (y := y)) (fun v_4 h_4 q_4 => ?_)
    obtain ⟨rfl, rfl⟩ := q_4
    rw [hN]
    refine rj_icmp_ge (pc := 7) (tgt := 29) dX5_writeName_7 (by decide) (by first | exact b01_r | exact bz_r | omega | (constructor <;> omega) | apply_assumption | (apply atF_r; assumption) | fail "no range") (by first | exact b01_r | exact bz_r | omega | (constructor <;> omega) | apply_assumption | (apply atF_r; assumption) | fail "no range") (fun c_7 => ?_) (fun c_7 => ?_)
    · refine r_return (pc := 29) dX5_writeName_29 rfl ?_
      exact ⟨rfl, I, Same.refl⟩
    · exfalso; omega
  | succ n ih =>
    intro i h s hi I
    have rv := letV_r y i
    refine r_iload_n (pc := 2) dX5_writeName_2 rfl ?_
    refine r_lload_n (pc := 3) dX5_writeName_3 rfl ?_
    refine r_callS1 (pc := 4) dX5_writeName_4 qX10_lettersOf kX5_70 sX10_lettersOf (Nat.le_of_ble_eq_true rfl) (cz_lettersOf _ (y := y)) (fun v_4 h_4 q_4 => ?_)
    obtain ⟨rfl, rfl⟩ := q_4
    rw [hN]
    refine rj_icmp_ge (pc := 7) (tgt := 29) dX5_writeName_7 (by decide) (by first | exact b01_r | exact bz_r | omega | (constructor <;> omega) | apply_assumption | (apply atF_r; assumption) | fail "no range") (by first | exact b01_r | exact bz_r | omega | (constructor <;> omega) | apply_assumption | (apply atF_r; assumption) | fail "no range") (fun c_7 => ?_) (fun c_7 => ?_)
    · refine r_return (pc := 29) dX5_writeName_29 rfl ?_
      exfalso; omega
    · refine r_aload_n (pc := 10) dX5_writeName_10 rfl (by first | rfl | exact isRefV_rf _) ?_
      refine r_getf (pc := 11) dX5_writeName_11 fX5_14 (by first | assumption | exact isI.gx (by assumption) | exact isI.gc (by assumption) | exact isW.gx (by assumption) | exact isW.gF (by assumption) | exact isW.gT (by assumption) (by omega) | exact isW.gS (by assumption) (by omega) | exact isW.gK (by assumption) (by omega) | exact isW.g1 (by assumption) | exact isW.g2 (by assumption) | exact isW.g3 (by assumption) | exact isI.gx (isW.i0 (by assumption)) | exact isI.gc (isW.i0 (by assumption)) | exact isI.gx (isW.i1 (by assumption)) | exact isI.gc (isW.i1 (by assumption)) | exact isI.gx (isW.i2 (by assumption)) | exact isI.gc (isW.i2 (by assumption)) | exact isI.gx (isW.i3 (by assumption)) | exact isI.gc (isW.i3 (by assumption)) | exact isI.gx (isW.i4 (by assumption)) | exact isI.gc (isW.i4 (by assumption)) | exact isI.gx (isW.i5 (by assumption)) | exact isI.gc (isW.i5 (by assumption)) | exact isR.gx (by assumption) | exact isRd.gx (by assumption) | exact isSp.gx (by assumption) | exact isI.gx (isR.i (by assumption)) | exact isI.gx (isRd.i (by assumption)) | exact isI.gc (isRd.i (by assumption)) | exact isI.gx (isSp.i (by assumption)) | exact isW.gx (isR.w (by assumption)) | exact isW.gF (isR.w (by assumption)) | exact isK.gx (by assumption) | exact isK.gr (by assumption) | exact isI.gx (isK.row (by assumption) (by omega)) | exact isI.gc (isK.row (by assumption) (by omega)) | exact isSs.gx (by assumption) | exact isSs.gi (by assumption) | fail "no such object") (by rfl) ?_
      refine r_lload_n (pc := 14) dX5_writeName_14 rfl ?_
      refine r_iload_n (pc := 15) dX5_writeName_15 rfl ?_
      refine r_callS2 (pc := 16) dX5_writeName_16 qX10_letterOf kX5_74 sX10_letterOf (Nat.le_of_ble_eq_true rfl) (cz_letterOf _ (y := y) (i := (i : Int)) ⟨by omega, by omega⟩) (fun v_16 h_16 q_16 => ?_)
      obtain ⟨rfl, rfl⟩ := q_16
      refine r_callV1 (pc := 19) dX5_writeName_19 qX1_append kX5_37 vX1_append (by first | assumption | exact isI.gx (by assumption) | exact isI.gc (by assumption) | exact isW.gx (by assumption) | exact isW.gF (by assumption) | exact isW.gT (by assumption) (by omega) | exact isW.gS (by assumption) (by omega) | exact isW.gK (by assumption) (by omega) | exact isW.g1 (by assumption) | exact isW.g2 (by assumption) | exact isW.g3 (by assumption) | exact isI.gx (isW.i0 (by assumption)) | exact isI.gc (isW.i0 (by assumption)) | exact isI.gx (isW.i1 (by assumption)) | exact isI.gc (isW.i1 (by assumption)) | exact isI.gx (isW.i2 (by assumption)) | exact isI.gc (isW.i2 (by assumption)) | exact isI.gx (isW.i3 (by assumption)) | exact isI.gc (isW.i3 (by assumption)) | exact isI.gx (isW.i4 (by assumption)) | exact isI.gc (isW.i4 (by assumption)) | exact isI.gx (isW.i5 (by assumption)) | exact isI.gc (isW.i5 (by assumption)) | exact isR.gx (by assumption) | exact isRd.gx (by assumption) | exact isSp.gx (by assumption) | exact isI.gx (isR.i (by assumption)) | exact isI.gx (isRd.i (by assumption)) | exact isI.gc (isRd.i (by assumption)) | exact isI.gx (isSp.i (by assumption)) | exact isW.gx (isR.w (by assumption)) | exact isW.gF (isR.w (by assumption)) | exact isK.gx (by assumption) | exact isK.gr (by assumption) | exact isI.gx (isK.row (by assumption) (by omega)) | exact isI.gc (isK.row (by assumption) (by omega)) | exact isSs.gx (by assumption) | exact isSs.gi (by assumption) | fail "no such object") rfl rfl (Nat.le_of_ble_eq_true rfl) (cs_app _ I (letV y i)) (fun v_19 h_19 q_19 => ?_)
      obtain ⟨⟨b_19, rfl⟩, I_19, S_19⟩ := q_19
      refine r_pop (pc := 22) dX5_writeName_22 (by first | rfl | (cases ‹Option Nat› <;> rfl)) ?_
      refine rj_iinc (pc := 23) dX5_writeName_23 (Nat.le_of_ble_eq_true rfl) rfl ?_
      dsimp only [lsSt, List.set, mLs, mEnt]
      refine r_goto (pc := 26) (tgt := 2) dX5_writeName_26 (by decide) ?_
      have y2 := ih (i + 1) _ _ (by omega) I_19
      rw [show ((i + 1 : Nat) : Int) = (i : Int) + 1 by omega] at y2
      exact y2.mono (fun v h' q => ⟨q.1, q.2.1, S_19.trans q.2.2⟩)
set_option maxHeartbeats 4000000 in
set_option maxRecDepth 100000 in
theorem cs_name {G : mG} {l : Launch} (d : Nat) {h : mH} {a : Nat} {s : (Nat → Int) × Int} (I : isSs h a s) {y : Int64} : RUNM G l (d + 2) mX5_writeName [.ref a, .long y] h (fun v h' => v = none ∧ isSs h' a (apS s (nmLs y)) ∧ Same (dBlk a) h h') := by
  have r7 := lnL_r7 (y := y) 7 0
  refine RUNM.of (by decide +kernel) (Nat.le_of_ble_eq_true rfl) ?_
  refine rj_iconst (pc := 0) dX5_writeName_0 ?_
  refine r_istore_n (pc := 1) dX5_writeName_1 (Nat.le_of_ble_eq_true rfl) ?_
  dsimp only [lsSt, List.set, mLs, mEnt]
  exact L_wName d (N := (lnL y 7 0).toNat) (by omega) (by omega) (lnL y 7 0).toNat 0 h s (by omega) I
def dgV (u p : Int) : Int := 48 + (u / p - u / p / 10 * 10)
def dgL (u : Int) : Nat → List Int
  | 0 => [dgV u 1]
  | k + 1 => if tenP (k + 1) ≤ u then dgV u (tenP (k + 1)) :: dgL u k else dgL u k
def nbLs (v : Int) : List Int := if v < 0 then 45 :: dgL (-v) 4 else dgL v 4
theorem tenP_d (k : Nat) : tenP (k + 1) / 10 = tenP k := by
  have : tenP (k + 1) = 10 * tenP k := rfl
  omega
theorem tenP_m {k : Nat} (h : k ≤ 4) : 1 ≤ tenP k ∧ tenP k ≤ 10000 := by
  match k, h with
  | 0, _ => decide
  | 1, _ => decide
  | 2, _ => decide
  | 3, _ => decide
  | 4, _ => decide
set_option maxHeartbeats 4000000 in
set_option maxRecDepth 100000 in
theorem L_wNum0 {G : mG} {l : Launch} (d : Nat) {a : Nat} {v0 u : Int} {h : mH} {s : (Nat → Int) × Int} (I : isSs h a s) : RUN G l (d + 1) mX5_writeNumber 29 [some (.ref a), some (.int (J v0)), some (.int (J u)), some (.int (J (0)))] [] h (fun v h' => v = none ∧ isSs h' a s ∧ Same (dBlk a) h h') := by
  refine r_iload_n (pc := 29) dX5_writeNumber_29 rfl ?_
  refine rj_if_le (pc := 30) (tgt := 68) dX5_writeNumber_30 (by decide) (by first | exact b01_r | exact bz_r | omega | (constructor <;> omega) | apply_assumption | (apply atF_r; assumption) | fail "no range") (fun c_30 => ?_) (fun c_30 => ?_)
  · refine r_return (pc := 68) dX5_writeNumber_68 rfl ?_
    exact ⟨rfl, I, Same.refl⟩
  · exfalso; omega
set_option maxHeartbeats 4000000 in
set_option maxRecDepth 100000 in
theorem L_wNum {G : mG} {l : Launch} (d : Nat) {a : Nat} {v0 u : Int} (hu : 0 ≤ u ∧ u < 1000000) : ∀ (k : Nat) (h : mH) (s : (Nat → Int) × Int), k ≤ 4 → isSs h a s → RUN G l (d + 1) mX5_writeNumber 29 [some (.ref a), some (.int (J v0)), some (.int (J u)), some (.int (J (tenP k)))] [] h (fun v h' => v = none ∧ isSs h' a (apS s (dgL u k)) ∧ Same (dBlk a) h h') := by
  intro k
  induction k with
  | zero =>
    intro h s hk I
    rw [show tenP 0 = (1 : Int) from rfl]
    refine r_iload_n (pc := 29) dX5_writeNumber_29 rfl ?_
    refine rj_if_le (pc := 30) (tgt := 68) dX5_writeNumber_30 (by decide) (by first | exact b01_r | exact bz_r | omega | (constructor <;> omega) | apply_assumption | (apply atF_r; assumption) | fail "no range") (fun c_30 => ?_) (fun c_30 => ?_)
    · refine r_return (pc := 68) dX5_writeNumber_68 rfl ?_
      exfalso; omega
    · refine r_iload_n (pc := 33) dX5_writeNumber_33 rfl ?_
      refine r_iload_n (pc := 34) dX5_writeNumber_34 rfl ?_
      refine rj_icmp_ge (pc := 35) (tgt := 43) dX5_writeNumber_35 (by decide) (by first | exact b01_r | exact bz_r | omega | (constructor <;> omega) | apply_assumption | (apply atF_r; assumption) | fail "no range") (by first | exact b01_r | exact bz_r | omega | (constructor <;> omega) | apply_assumption | (apply atF_r; assumption) | fail "no range") (fun c_35 => ?_) (fun c_35 => ?_)
      · refine r_aload_n (pc := 43) dX5_writeNumber_43 rfl (by first | rfl | exact isRefV_rf _) ?_
        refine r_getf (pc := 44) dX5_writeNumber_44 fX5_14 (by first | assumption | exact isI.gx (by assumption) | exact isI.gc (by assumption) | exact isW.gx (by assumption) | exact isW.gF (by assumption) | exact isW.gT (by assumption) (by omega) | exact isW.gS (by assumption) (by omega) | exact isW.gK (by assumption) (by omega) | exact isW.g1 (by assumption) | exact isW.g2 (by assumption) | exact isW.g3 (by assumption) | exact isI.gx (isW.i0 (by assumption)) | exact isI.gc (isW.i0 (by assumption)) | exact isI.gx (isW.i1 (by assumption)) | exact isI.gc (isW.i1 (by assumption)) | exact isI.gx (isW.i2 (by assumption)) | exact isI.gc (isW.i2 (by assumption)) | exact isI.gx (isW.i3 (by assumption)) | exact isI.gc (isW.i3 (by assumption)) | exact isI.gx (isW.i4 (by assumption)) | exact isI.gc (isW.i4 (by assumption)) | exact isI.gx (isW.i5 (by assumption)) | exact isI.gc (isW.i5 (by assumption)) | exact isR.gx (by assumption) | exact isRd.gx (by assumption) | exact isSp.gx (by assumption) | exact isI.gx (isR.i (by assumption)) | exact isI.gx (isRd.i (by assumption)) | exact isI.gc (isRd.i (by assumption)) | exact isI.gx (isSp.i (by assumption)) | exact isW.gx (isR.w (by assumption)) | exact isW.gF (isR.w (by assumption)) | exact isK.gx (by assumption) | exact isK.gr (by assumption) | exact isI.gx (isK.row (by assumption) (by omega)) | exact isI.gc (isK.row (by assumption) (by omega)) | exact isSs.gx (by assumption) | exact isSs.gi (by assumption) | fail "no such object") (by rfl) ?_
        refine rj_bipush (pc := 47) dX5_writeNumber_47 (by decide +kernel) ?_
        refine r_iload_n (pc := 49) dX5_writeNumber_49 rfl ?_
        refine r_iload_n (pc := 50) dX5_writeNumber_50 rfl ?_
        refine r_idiv (pc := 51) dX5_writeNumber_51 (J_nz ⟨by omega, by omega⟩ (by omega)) ?_
        rw [J_div (x := u) (y := 1) ⟨by omega, by omega⟩ ⟨by omega, by omega⟩ (by omega)]
        refine rj_bipush (pc := 52) dX5_writeNumber_52 (by decide +kernel) ?_
        have q0 : 0 ≤ u / 1 := Int.ediv_nonneg (by omega) (by omega)
        have q1 : u / 1 ≤ u := Int.ediv_le_self _ (by omega)
        refine r_irem (pc := 54) dX5_writeNumber_54 (J_nz (by decide) (by decide)) ?_
        rw [J_div (x := u / 1) (y := 10) ⟨by omega, by omega⟩ (by decide) q0, J_mul, J_sub]
        refine rj_iadd (pc := 55) dX5_writeNumber_55 ?_
        refine r_callV1 (pc := 56) dX5_writeNumber_56 qX1_append kX5_37 vX1_append (by first | assumption | exact isI.gx (by assumption) | exact isI.gc (by assumption) | exact isW.gx (by assumption) | exact isW.gF (by assumption) | exact isW.gT (by assumption) (by omega) | exact isW.gS (by assumption) (by omega) | exact isW.gK (by assumption) (by omega) | exact isW.g1 (by assumption) | exact isW.g2 (by assumption) | exact isW.g3 (by assumption) | exact isI.gx (isW.i0 (by assumption)) | exact isI.gc (isW.i0 (by assumption)) | exact isI.gx (isW.i1 (by assumption)) | exact isI.gc (isW.i1 (by assumption)) | exact isI.gx (isW.i2 (by assumption)) | exact isI.gc (isW.i2 (by assumption)) | exact isI.gx (isW.i3 (by assumption)) | exact isI.gc (isW.i3 (by assumption)) | exact isI.gx (isW.i4 (by assumption)) | exact isI.gc (isW.i4 (by assumption)) | exact isI.gx (isW.i5 (by assumption)) | exact isI.gc (isW.i5 (by assumption)) | exact isR.gx (by assumption) | exact isRd.gx (by assumption) | exact isSp.gx (by assumption) | exact isI.gx (isR.i (by assumption)) | exact isI.gx (isRd.i (by assumption)) | exact isI.gc (isRd.i (by assumption)) | exact isI.gx (isSp.i (by assumption)) | exact isW.gx (isR.w (by assumption)) | exact isW.gF (isR.w (by assumption)) | exact isK.gx (by assumption) | exact isK.gr (by assumption) | exact isI.gx (isK.row (by assumption) (by omega)) | exact isI.gc (isK.row (by assumption) (by omega)) | exact isSs.gx (by assumption) | exact isSs.gi (by assumption) | fail "no such object") rfl rfl (Nat.le_of_ble_eq_true rfl) (cs_app _ I (48 + (u / 1 - u / 1 / 10 * 10))) (fun v_56 h_56 q_56 => ?_)
        obtain ⟨⟨b_56, rfl⟩, I_56, S_56⟩ := q_56
        refine r_pop (pc := 59) dX5_writeNumber_59 (by first | rfl | (cases ‹Option Nat› <;> rfl)) ?_
        refine r_iload_n (pc := 60) dX5_writeNumber_60 rfl ?_
        refine rj_bipush (pc := 61) dX5_writeNumber_61 (by decide +kernel) ?_
        refine r_idiv (pc := 63) dX5_writeNumber_63 (J_nz ⟨by omega, by omega⟩ (by omega)) ?_
        rw [J_div (x := 1) (y := 10) ⟨by omega, by omega⟩ ⟨by omega, by omega⟩ (by omega)]
        refine r_istore_n (pc := 64) dX5_writeNumber_64 (Nat.le_of_ble_eq_true rfl) ?_
        dsimp only [lsSt, List.set, mLs, mEnt]
        refine r_goto (pc := 65) (tgt := 29) dX5_writeNumber_65 (by decide) ?_
        rw [show (1 : Int) / 10 = 0 from rfl]
        exact (L_wNum0 d I_56).mono (fun v h' q => ⟨q.1, q.2.1, S_56.trans q.2.2⟩)
      · refine r_iload_n (pc := 38) dX5_writeNumber_38 rfl ?_
        refine rj_iconst (pc := 39) dX5_writeNumber_39 ?_
        refine rj_icmp_ne (pc := 40) (tgt := 60) dX5_writeNumber_40 (by decide) (by first | exact b01_r | exact bz_r | omega | (constructor <;> omega) | apply_assumption | (apply atF_r; assumption) | fail "no range") (by first | exact b01_r | exact bz_r | omega | (constructor <;> omega) | apply_assumption | (apply atF_r; assumption) | fail "no range") (fun c_40 => ?_) (fun c_40 => ?_)
        · refine r_iload_n (pc := 60) dX5_writeNumber_60 rfl ?_
          refine rj_bipush (pc := 61) dX5_writeNumber_61 (by decide +kernel) ?_
          refine r_idiv (pc := 63) dX5_writeNumber_63 (J_nz ⟨by omega, by omega⟩ (by omega)) ?_
          rw [J_div (x := 1) (y := 10) ⟨by omega, by omega⟩ ⟨by omega, by omega⟩ (by omega)]
          refine r_istore_n (pc := 64) dX5_writeNumber_64 (Nat.le_of_ble_eq_true rfl) ?_
          dsimp only [lsSt, List.set, mLs, mEnt]
          refine r_goto (pc := 65) (tgt := 29) dX5_writeNumber_65 (by decide) ?_
          exfalso; first | omega | exact absurd rfl c_40 | exact absurd c_40 (by decide) | exact absurd trivial ‹¬ True›
        · refine r_aload_n (pc := 43) dX5_writeNumber_43 rfl (by first | rfl | exact isRefV_rf _) ?_
          refine r_getf (pc := 44) dX5_writeNumber_44 fX5_14 (by first | assumption | exact isI.gx (by assumption) | exact isI.gc (by assumption) | exact isW.gx (by assumption) | exact isW.gF (by assumption) | exact isW.gT (by assumption) (by omega) | exact isW.gS (by assumption) (by omega) | exact isW.gK (by assumption) (by omega) | exact isW.g1 (by assumption) | exact isW.g2 (by assumption) | exact isW.g3 (by assumption) | exact isI.gx (isW.i0 (by assumption)) | exact isI.gc (isW.i0 (by assumption)) | exact isI.gx (isW.i1 (by assumption)) | exact isI.gc (isW.i1 (by assumption)) | exact isI.gx (isW.i2 (by assumption)) | exact isI.gc (isW.i2 (by assumption)) | exact isI.gx (isW.i3 (by assumption)) | exact isI.gc (isW.i3 (by assumption)) | exact isI.gx (isW.i4 (by assumption)) | exact isI.gc (isW.i4 (by assumption)) | exact isI.gx (isW.i5 (by assumption)) | exact isI.gc (isW.i5 (by assumption)) | exact isR.gx (by assumption) | exact isRd.gx (by assumption) | exact isSp.gx (by assumption) | exact isI.gx (isR.i (by assumption)) | exact isI.gx (isRd.i (by assumption)) | exact isI.gc (isRd.i (by assumption)) | exact isI.gx (isSp.i (by assumption)) | exact isW.gx (isR.w (by assumption)) | exact isW.gF (isR.w (by assumption)) | exact isK.gx (by assumption) | exact isK.gr (by assumption) | exact isI.gx (isK.row (by assumption) (by omega)) | exact isI.gc (isK.row (by assumption) (by omega)) | exact isSs.gx (by assumption) | exact isSs.gi (by assumption) | fail "no such object") (by rfl) ?_
          refine rj_bipush (pc := 47) dX5_writeNumber_47 (by decide +kernel) ?_
          refine r_iload_n (pc := 49) dX5_writeNumber_49 rfl ?_
          refine r_iload_n (pc := 50) dX5_writeNumber_50 rfl ?_
          refine r_idiv (pc := 51) dX5_writeNumber_51 (J_nz ⟨by omega, by omega⟩ (by omega)) ?_
          rw [J_div (x := u) (y := 1) ⟨by omega, by omega⟩ ⟨by omega, by omega⟩ (by omega)]
          refine rj_bipush (pc := 52) dX5_writeNumber_52 (by decide +kernel) ?_
          have q0 : 0 ≤ u / 1 := Int.ediv_nonneg (by omega) (by omega)
          have q1 : u / 1 ≤ u := Int.ediv_le_self _ (by omega)
          refine r_irem (pc := 54) dX5_writeNumber_54 (J_nz (by decide) (by decide)) ?_
          rw [J_div (x := u / 1) (y := 10) ⟨by omega, by omega⟩ (by decide) q0, J_mul, J_sub]
          refine rj_iadd (pc := 55) dX5_writeNumber_55 ?_
          refine r_callV1 (pc := 56) dX5_writeNumber_56 qX1_append kX5_37 vX1_append (by first | assumption | exact isI.gx (by assumption) | exact isI.gc (by assumption) | exact isW.gx (by assumption) | exact isW.gF (by assumption) | exact isW.gT (by assumption) (by omega) | exact isW.gS (by assumption) (by omega) | exact isW.gK (by assumption) (by omega) | exact isW.g1 (by assumption) | exact isW.g2 (by assumption) | exact isW.g3 (by assumption) | exact isI.gx (isW.i0 (by assumption)) | exact isI.gc (isW.i0 (by assumption)) | exact isI.gx (isW.i1 (by assumption)) | exact isI.gc (isW.i1 (by assumption)) | exact isI.gx (isW.i2 (by assumption)) | exact isI.gc (isW.i2 (by assumption)) | exact isI.gx (isW.i3 (by assumption)) | exact isI.gc (isW.i3 (by assumption)) | exact isI.gx (isW.i4 (by assumption)) | exact isI.gc (isW.i4 (by assumption)) | exact isI.gx (isW.i5 (by assumption)) | exact isI.gc (isW.i5 (by assumption)) | exact isR.gx (by assumption) | exact isRd.gx (by assumption) | exact isSp.gx (by assumption) | exact isI.gx (isR.i (by assumption)) | exact isI.gx (isRd.i (by assumption)) | exact isI.gc (isRd.i (by assumption)) | exact isI.gx (isSp.i (by assumption)) | exact isW.gx (isR.w (by assumption)) | exact isW.gF (isR.w (by assumption)) | exact isK.gx (by assumption) | exact isK.gr (by assumption) | exact isI.gx (isK.row (by assumption) (by omega)) | exact isI.gc (isK.row (by assumption) (by omega)) | exact isSs.gx (by assumption) | exact isSs.gi (by assumption) | fail "no such object") rfl rfl (Nat.le_of_ble_eq_true rfl) (cs_app _ I (48 + (u / 1 - u / 1 / 10 * 10))) (fun v_56 h_56 q_56 => ?_)
          obtain ⟨⟨b_56, rfl⟩, I_56, S_56⟩ := q_56
          refine r_pop (pc := 59) dX5_writeNumber_59 (by first | rfl | (cases ‹Option Nat› <;> rfl)) ?_
          refine r_iload_n (pc := 60) dX5_writeNumber_60 rfl ?_
          refine rj_bipush (pc := 61) dX5_writeNumber_61 (by decide +kernel) ?_
          refine r_idiv (pc := 63) dX5_writeNumber_63 (J_nz ⟨by omega, by omega⟩ (by omega)) ?_
          rw [J_div (x := 1) (y := 10) ⟨by omega, by omega⟩ ⟨by omega, by omega⟩ (by omega)]
          refine r_istore_n (pc := 64) dX5_writeNumber_64 (Nat.le_of_ble_eq_true rfl) ?_
          dsimp only [lsSt, List.set, mLs, mEnt]
          refine r_goto (pc := 65) (tgt := 29) dX5_writeNumber_65 (by decide) ?_
          rw [show (1 : Int) / 10 = 0 from rfl]
          exact (L_wNum0 d I_56).mono (fun v h' q => ⟨q.1, q.2.1, S_56.trans q.2.2⟩)
  | succ k ih =>
    intro h s hk I
    have t1 := tenP_m hk
    have t2 : tenP (k + 1) = 10 * tenP k := rfl
    have t3 := tenP_1 k
    refine r_iload_n (pc := 29) dX5_writeNumber_29 rfl ?_
    refine rj_if_le (pc := 30) (tgt := 68) dX5_writeNumber_30 (by decide) (by first | exact b01_r | exact bz_r | omega | (constructor <;> omega) | apply_assumption | (apply atF_r; assumption) | fail "no range") (fun c_30 => ?_) (fun c_30 => ?_)
    · refine r_return (pc := 68) dX5_writeNumber_68 rfl ?_
      exfalso; omega
    · refine r_iload_n (pc := 33) dX5_writeNumber_33 rfl ?_
      refine r_iload_n (pc := 34) dX5_writeNumber_34 rfl ?_
      refine rj_icmp_ge (pc := 35) (tgt := 43) dX5_writeNumber_35 (by decide) (by first | exact b01_r | exact bz_r | omega | (constructor <;> omega) | apply_assumption | (apply atF_r; assumption) | fail "no range") (by first | exact b01_r | exact bz_r | omega | (constructor <;> omega) | apply_assumption | (apply atF_r; assumption) | fail "no range") (fun c_35 => ?_) (fun c_35 => ?_)
      · refine r_aload_n (pc := 43) dX5_writeNumber_43 rfl (by first | rfl | exact isRefV_rf _) ?_
        refine r_getf (pc := 44) dX5_writeNumber_44 fX5_14 (by first | assumption | exact isI.gx (by assumption) | exact isI.gc (by assumption) | exact isW.gx (by assumption) | exact isW.gF (by assumption) | exact isW.gT (by assumption) (by omega) | exact isW.gS (by assumption) (by omega) | exact isW.gK (by assumption) (by omega) | exact isW.g1 (by assumption) | exact isW.g2 (by assumption) | exact isW.g3 (by assumption) | exact isI.gx (isW.i0 (by assumption)) | exact isI.gc (isW.i0 (by assumption)) | exact isI.gx (isW.i1 (by assumption)) | exact isI.gc (isW.i1 (by assumption)) | exact isI.gx (isW.i2 (by assumption)) | exact isI.gc (isW.i2 (by assumption)) | exact isI.gx (isW.i3 (by assumption)) | exact isI.gc (isW.i3 (by assumption)) | exact isI.gx (isW.i4 (by assumption)) | exact isI.gc (isW.i4 (by assumption)) | exact isI.gx (isW.i5 (by assumption)) | exact isI.gc (isW.i5 (by assumption)) | exact isR.gx (by assumption) | exact isRd.gx (by assumption) | exact isSp.gx (by assumption) | exact isI.gx (isR.i (by assumption)) | exact isI.gx (isRd.i (by assumption)) | exact isI.gc (isRd.i (by assumption)) | exact isI.gx (isSp.i (by assumption)) | exact isW.gx (isR.w (by assumption)) | exact isW.gF (isR.w (by assumption)) | exact isK.gx (by assumption) | exact isK.gr (by assumption) | exact isI.gx (isK.row (by assumption) (by omega)) | exact isI.gc (isK.row (by assumption) (by omega)) | exact isSs.gx (by assumption) | exact isSs.gi (by assumption) | fail "no such object") (by rfl) ?_
        refine rj_bipush (pc := 47) dX5_writeNumber_47 (by decide +kernel) ?_
        refine r_iload_n (pc := 49) dX5_writeNumber_49 rfl ?_
        refine r_iload_n (pc := 50) dX5_writeNumber_50 rfl ?_
        refine r_idiv (pc := 51) dX5_writeNumber_51 (J_nz ⟨by omega, by omega⟩ (by omega)) ?_
        rw [J_div (x := u) (y := tenP (k + 1)) ⟨by omega, by omega⟩ ⟨by omega, by omega⟩ (by omega)]
        refine rj_bipush (pc := 52) dX5_writeNumber_52 (by decide +kernel) ?_
        have q0 : 0 ≤ u / tenP (k + 1) := Int.ediv_nonneg (by omega) (by omega)
        have q1 : u / tenP (k + 1) ≤ u := Int.ediv_le_self _ (by omega)
        refine r_irem (pc := 54) dX5_writeNumber_54 (J_nz (by decide) (by decide)) ?_
        rw [J_div (x := u / tenP (k + 1)) (y := 10) ⟨by omega, by omega⟩ (by decide) q0, J_mul, J_sub]
        refine rj_iadd (pc := 55) dX5_writeNumber_55 ?_
        refine r_callV1 (pc := 56) dX5_writeNumber_56 qX1_append kX5_37 vX1_append (by first | assumption | exact isI.gx (by assumption) | exact isI.gc (by assumption) | exact isW.gx (by assumption) | exact isW.gF (by assumption) | exact isW.gT (by assumption) (by omega) | exact isW.gS (by assumption) (by omega) | exact isW.gK (by assumption) (by omega) | exact isW.g1 (by assumption) | exact isW.g2 (by assumption) | exact isW.g3 (by assumption) | exact isI.gx (isW.i0 (by assumption)) | exact isI.gc (isW.i0 (by assumption)) | exact isI.gx (isW.i1 (by assumption)) | exact isI.gc (isW.i1 (by assumption)) | exact isI.gx (isW.i2 (by assumption)) | exact isI.gc (isW.i2 (by assumption)) | exact isI.gx (isW.i3 (by assumption)) | exact isI.gc (isW.i3 (by assumption)) | exact isI.gx (isW.i4 (by assumption)) | exact isI.gc (isW.i4 (by assumption)) | exact isI.gx (isW.i5 (by assumption)) | exact isI.gc (isW.i5 (by assumption)) | exact isR.gx (by assumption) | exact isRd.gx (by assumption) | exact isSp.gx (by assumption) | exact isI.gx (isR.i (by assumption)) | exact isI.gx (isRd.i (by assumption)) | exact isI.gc (isRd.i (by assumption)) | exact isI.gx (isSp.i (by assumption)) | exact isW.gx (isR.w (by assumption)) | exact isW.gF (isR.w (by assumption)) | exact isK.gx (by assumption) | exact isK.gr (by assumption) | exact isI.gx (isK.row (by assumption) (by omega)) | exact isI.gc (isK.row (by assumption) (by omega)) | exact isSs.gx (by assumption) | exact isSs.gi (by assumption) | fail "no such object") rfl rfl (Nat.le_of_ble_eq_true rfl) (cs_app _ I (48 + (u / tenP (k + 1) - u / tenP (k + 1) / 10 * 10))) (fun v_56 h_56 q_56 => ?_)
        obtain ⟨⟨b_56, rfl⟩, I_56, S_56⟩ := q_56
        refine r_pop (pc := 59) dX5_writeNumber_59 (by first | rfl | (cases ‹Option Nat› <;> rfl)) ?_
        refine r_iload_n (pc := 60) dX5_writeNumber_60 rfl ?_
        refine rj_bipush (pc := 61) dX5_writeNumber_61 (by decide +kernel) ?_
        refine r_idiv (pc := 63) dX5_writeNumber_63 (J_nz ⟨by omega, by omega⟩ (by omega)) ?_
        rw [J_div (x := tenP (k + 1)) (y := 10) ⟨by omega, by omega⟩ ⟨by omega, by omega⟩ (by omega)]
        refine r_istore_n (pc := 64) dX5_writeNumber_64 (Nat.le_of_ble_eq_true rfl) ?_
        dsimp only [lsSt, List.set, mLs, mEnt]
        refine r_goto (pc := 65) (tgt := 29) dX5_writeNumber_65 (by decide) ?_
        rw [tenP_d k]
        have y2 := ih _ _ (by omega) I_56
        rw [show dgL u (k + 1) = dgV u (tenP (k + 1)) :: dgL u k by unfold dgL; rw [if_pos (by omega)]; cases k <;> rfl]
        exact y2.mono (fun v h' q => ⟨q.1, q.2.1, S_56.trans q.2.2⟩)
      · refine r_iload_n (pc := 38) dX5_writeNumber_38 rfl ?_
        refine rj_iconst (pc := 39) dX5_writeNumber_39 ?_
        refine rj_icmp_ne (pc := 40) (tgt := 60) dX5_writeNumber_40 (by decide) (by first | exact b01_r | exact bz_r | omega | (constructor <;> omega) | apply_assumption | (apply atF_r; assumption) | fail "no range") (by first | exact b01_r | exact bz_r | omega | (constructor <;> omega) | apply_assumption | (apply atF_r; assumption) | fail "no range") (fun c_40 => ?_) (fun c_40 => ?_)
        · refine r_iload_n (pc := 60) dX5_writeNumber_60 rfl ?_
          refine rj_bipush (pc := 61) dX5_writeNumber_61 (by decide +kernel) ?_
          refine r_idiv (pc := 63) dX5_writeNumber_63 (J_nz ⟨by omega, by omega⟩ (by omega)) ?_
          rw [J_div (x := tenP (k + 1)) (y := 10) ⟨by omega, by omega⟩ ⟨by omega, by omega⟩ (by omega)]
          refine r_istore_n (pc := 64) dX5_writeNumber_64 (Nat.le_of_ble_eq_true rfl) ?_
          dsimp only [lsSt, List.set, mLs, mEnt]
          refine r_goto (pc := 65) (tgt := 29) dX5_writeNumber_65 (by decide) ?_
          rw [tenP_d k]
          rw [show dgL u (k + 1) = dgL u k by rw [dgL]; rw [if_neg (by omega)]]
          exact ih h s (by omega) I
        · refine r_aload_n (pc := 43) dX5_writeNumber_43 rfl (by first | rfl | exact isRefV_rf _) ?_
          refine r_getf (pc := 44) dX5_writeNumber_44 fX5_14 (by first | assumption | exact isI.gx (by assumption) | exact isI.gc (by assumption) | exact isW.gx (by assumption) | exact isW.gF (by assumption) | exact isW.gT (by assumption) (by omega) | exact isW.gS (by assumption) (by omega) | exact isW.gK (by assumption) (by omega) | exact isW.g1 (by assumption) | exact isW.g2 (by assumption) | exact isW.g3 (by assumption) | exact isI.gx (isW.i0 (by assumption)) | exact isI.gc (isW.i0 (by assumption)) | exact isI.gx (isW.i1 (by assumption)) | exact isI.gc (isW.i1 (by assumption)) | exact isI.gx (isW.i2 (by assumption)) | exact isI.gc (isW.i2 (by assumption)) | exact isI.gx (isW.i3 (by assumption)) | exact isI.gc (isW.i3 (by assumption)) | exact isI.gx (isW.i4 (by assumption)) | exact isI.gc (isW.i4 (by assumption)) | exact isI.gx (isW.i5 (by assumption)) | exact isI.gc (isW.i5 (by assumption)) | exact isR.gx (by assumption) | exact isRd.gx (by assumption) | exact isSp.gx (by assumption) | exact isI.gx (isR.i (by assumption)) | exact isI.gx (isRd.i (by assumption)) | exact isI.gc (isRd.i (by assumption)) | exact isI.gx (isSp.i (by assumption)) | exact isW.gx (isR.w (by assumption)) | exact isW.gF (isR.w (by assumption)) | exact isK.gx (by assumption) | exact isK.gr (by assumption) | exact isI.gx (isK.row (by assumption) (by omega)) | exact isI.gc (isK.row (by assumption) (by omega)) | exact isSs.gx (by assumption) | exact isSs.gi (by assumption) | fail "no such object") (by rfl) ?_
          refine rj_bipush (pc := 47) dX5_writeNumber_47 (by decide +kernel) ?_
          refine r_iload_n (pc := 49) dX5_writeNumber_49 rfl ?_
          refine r_iload_n (pc := 50) dX5_writeNumber_50 rfl ?_
          refine r_idiv (pc := 51) dX5_writeNumber_51 (J_nz ⟨by omega, by omega⟩ (by omega)) ?_
          rw [J_div (x := u) (y := tenP (k + 1)) ⟨by omega, by omega⟩ ⟨by omega, by omega⟩ (by omega)]
          refine rj_bipush (pc := 52) dX5_writeNumber_52 (by decide +kernel) ?_
          have q0 : 0 ≤ u / tenP (k + 1) := Int.ediv_nonneg (by omega) (by omega)
          have q1 : u / tenP (k + 1) ≤ u := Int.ediv_le_self _ (by omega)
          refine r_irem (pc := 54) dX5_writeNumber_54 (J_nz (by decide) (by decide)) ?_
          rw [J_div (x := u / tenP (k + 1)) (y := 10) ⟨by omega, by omega⟩ (by decide) q0, J_mul, J_sub]
          refine rj_iadd (pc := 55) dX5_writeNumber_55 ?_
          refine r_callV1 (pc := 56) dX5_writeNumber_56 qX1_append kX5_37 vX1_append (by first | assumption | exact isI.gx (by assumption) | exact isI.gc (by assumption) | exact isW.gx (by assumption) | exact isW.gF (by assumption) | exact isW.gT (by assumption) (by omega) | exact isW.gS (by assumption) (by omega) | exact isW.gK (by assumption) (by omega) | exact isW.g1 (by assumption) | exact isW.g2 (by assumption) | exact isW.g3 (by assumption) | exact isI.gx (isW.i0 (by assumption)) | exact isI.gc (isW.i0 (by assumption)) | exact isI.gx (isW.i1 (by assumption)) | exact isI.gc (isW.i1 (by assumption)) | exact isI.gx (isW.i2 (by assumption)) | exact isI.gc (isW.i2 (by assumption)) | exact isI.gx (isW.i3 (by assumption)) | exact isI.gc (isW.i3 (by assumption)) | exact isI.gx (isW.i4 (by assumption)) | exact isI.gc (isW.i4 (by assumption)) | exact isI.gx (isW.i5 (by assumption)) | exact isI.gc (isW.i5 (by assumption)) | exact isR.gx (by assumption) | exact isRd.gx (by assumption) | exact isSp.gx (by assumption) | exact isI.gx (isR.i (by assumption)) | exact isI.gx (isRd.i (by assumption)) | exact isI.gc (isRd.i (by assumption)) | exact isI.gx (isSp.i (by assumption)) | exact isW.gx (isR.w (by assumption)) | exact isW.gF (isR.w (by assumption)) | exact isK.gx (by assumption) | exact isK.gr (by assumption) | exact isI.gx (isK.row (by assumption) (by omega)) | exact isI.gc (isK.row (by assumption) (by omega)) | exact isSs.gx (by assumption) | exact isSs.gi (by assumption) | fail "no such object") rfl rfl (Nat.le_of_ble_eq_true rfl) (cs_app _ I (48 + (u / tenP (k + 1) - u / tenP (k + 1) / 10 * 10))) (fun v_56 h_56 q_56 => ?_)
          obtain ⟨⟨b_56, rfl⟩, I_56, S_56⟩ := q_56
          refine r_pop (pc := 59) dX5_writeNumber_59 (by first | rfl | (cases ‹Option Nat› <;> rfl)) ?_
          refine r_iload_n (pc := 60) dX5_writeNumber_60 rfl ?_
          refine rj_bipush (pc := 61) dX5_writeNumber_61 (by decide +kernel) ?_
          refine r_idiv (pc := 63) dX5_writeNumber_63 (J_nz ⟨by omega, by omega⟩ (by omega)) ?_
          rw [J_div (x := tenP (k + 1)) (y := 10) ⟨by omega, by omega⟩ ⟨by omega, by omega⟩ (by omega)]
          refine r_istore_n (pc := 64) dX5_writeNumber_64 (Nat.le_of_ble_eq_true rfl) ?_
          dsimp only [lsSt, List.set, mLs, mEnt]
          refine r_goto (pc := 65) (tgt := 29) dX5_writeNumber_65 (by decide) ?_
          exfalso; omega
