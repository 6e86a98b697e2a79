section mg_f4
/-! ===== the class: the speller ===== -/
theorem J_div {x y : Int} (hx : InR x) (hy : InR y) (h0 : 0 ≤ x) : J x / J y = J (x / y) := by
  rw [J_def, J_def, J_def, ← Int.tdiv_eq_ediv_of_nonneg h0]
  exact (Int32.ofInt_tdiv (by show (-2147483648 : Int) ≤ x; omega) (by show x ≤ (2147483647 : Int); omega) (by show (-2147483648 : Int) ≤ y; omega) (by show y ≤ (2147483647 : Int); omega)).symm
theorem J_nz {y : Int} (hy : InR y) (h : ¬ y = 0) : ¬ J y = 0 := by
  rw [J_0, J_inj hy (by decide)]
  exact h
def SH : Type := (Nat → Int) × Int
def ap1 (s : (Nat → Int) × Int) (v : Int) : (Nat → Int) × Int := if 0 ≤ s.2 ∧ s.2 < 120 then (updI s.1 s.2.toNat v, s.2 + 1) else s
def apS (s : (Nat → Int) × Int) : List Int → (Nat → Int) × Int
  | [] => s
  | v :: L => apS (ap1 s v) L
theorem apS_a (s : (Nat → Int) × Int) : ∀ (L M : List Int), apS s (L ++ M) = apS (apS s L) M := by
  intro L
  induction L generalizing s with
  | nil => intro M; rfl
  | cons v L ih => intro M; exact ih (ap1 s v) M
def shOk (s : (Nat → Int) × Int) : Prop := 0 ≤ s.2 ∧ s.2 ≤ 120
theorem ap1_ok {s : (Nat → Int) × Int} {v : Int} (h : shOk s) : shOk (ap1 s v) := by
  unfold shOk at h ⊢
  unfold ap1
  split
  · show 0 ≤ s.2 + 1 ∧ s.2 + 1 ≤ 120; omega
  · exact h
theorem apS_ok : ∀ (L : List Int) (s : (Nat → Int) × Int), shOk s → shOk (apS s L)
  | [], _, h => h
  | _ :: L, _, h => apS_ok L _ (ap1_ok h)
def isSs (h : mH) (a : Nat) (s : (Nat → Int) × Int) : Prop := isSp h a s.2 s.1 ∧ shOk s
theorem isSs.gx {h : mH} {a : Nat} {s : (Nat → Int) × Int} (k : isSs h a s) : hGet h a = some (.inl (5, [.ref (rA a 1)])) := k.1.gx
theorem isSs.gi {h : mH} {a : Nat} {s : (Nat → Int) × Int} (k : isSs h a s) : hGet h (rA a 1) = some (.inl (1, [.ref (rA a 1 + 1), .int (J s.2)])) := k.1.i.gx
theorem cs_app {G : mG} {l : Launch} (d : Nat) {h : mH} {a : Nat} {s : (Nat → Int) × Int} (I : isSs h a s) (x : Int) : RUNM G l d mX1_append [.ref (rA a 1), .int (J x)] h (fun v h' => (∃ b : Int, v = some (.int (J b))) ∧ isSs h' a (ap1 s x) ∧ Same (dBlk a) h h') := by
  have r := I.2
  unfold shOk at r
  refine (ci_append d I.1.i (by decide) ⟨by omega, by omega⟩ x).mono (fun v h' q => ⟨⟨_, q.1⟩, ⟨?_, ap1_ok I.2⟩, q.2.2.mono (fun b hb => i_dBlk hb)⟩)
  have k := I.1.ofI q.2.2 q.2.1
  unfold ap1
  by_cases c : 0 ≤ s.2 ∧ s.2 < 120
  · rw [if_pos c]
    rw [if_pos (by omega), if_pos (by omega)] at k
    exact k
  · rw [if_neg c]
    rw [if_neg (by omega), if_neg (by omega)] at k
    exact k
noncomputable def nmF (y : Int64) : Nat → Nat → List Int
  | 0, _ => []
  | n + 1, i => letV y i :: nmF y n (i + 1)
noncomputable def nmLs (y : Int64) : List Int := nmF y (lnL y 7 0).toNat 0
theorem lnL_r7 {y : Int64} : ∀ n t : Nat, 0 ≤ lnL y n t ∧ lnL y n t ≤ t + n
  | 0, t => by unfold lnL; omega
  | n + 1, t => by
    have := lnL_r7 (y := y) n (t + 1)
    unfold lnL
    split <;> omega
set_option maxHeartbeats 4000000 in
set_option maxRecDepth 100000 in
theorem L_wName {G : mG} {l : Launch} (d : Nat) {a : Nat} {y : Int64} {N : Nat} (hN : lnL y 7 0 = (N : Int)) (h7 : N ≤ 7) : ∀ (n i : Nat) (h : mH) (s : (Nat → Int) × Int), i + n = N → isSs h a s → RUN G l (d + 2) mX5_writeName 2 [some (.ref a), some (.long y), none, some (.int (J (i : Int)))] [] h (fun v h' => v = none ∧ isSs h' a (apS s (nmF y n i)) ∧ Same (dBlk a) h h') := by
  intro n
  induction n with
  | zero =>
    intro i h s hi I
    refine r_iload_n (pc := 2) dX5_writeName_2 rfl ?_
    refine r_lload_n (pc := 3) dX5_writeName_3 rfl ?_
    refine r_callS1 (pc := 4) dX5_writeName_4 qX10_lettersOf kX5_70 sX10_lettersOf (Nat.le_of_ble_eq_true rfl) (cz_lettersOf _ (y := y)) (fun v_4 h_4 q_4 => ?_)
    obtain ⟨rfl, rfl⟩ := q_4
    rw [hN]
    refine rj_icmp_ge (pc := 7) (tgt := 29) dX5_writeName_7 (by decide) (by first | exact b01_r | exact bz_r | omega | (constructor <;> omega) | apply_assumption | (apply atF_r; assumption) | fail "no range") (by first | exact b01_r | exact bz_r | omega | (constructor <;> omega) | apply_assumption | (apply atF_r; assumption) | fail "no range") (fun c_7 => ?_) (fun c_7 => ?_)
    · refine r_return (pc := 29) dX5_writeName_29 rfl ?_
      exact ⟨rfl, I, Same.refl⟩
    · exfalso; omega
  | succ n ih =>
    intro i h s hi I
    have rv := letV_r y i
    refine r_iload_n (pc := 2) dX5_writeName_2 rfl ?_
    refine r_lload_n (pc := 3) dX5_writeName_3 rfl ?_
    refine r_callS1 (pc := 4) dX5_writeName_4 qX10_lettersOf kX5_70 sX10_lettersOf (Nat.le_of_ble_eq_true rfl) (cz_lettersOf _ (y := y)) (fun v_4 h_4 q_4 => ?_)
    obtain ⟨rfl, rfl⟩ := q_4
    rw [hN]
    refine rj_icmp_ge (pc := 7) (tgt := 29) dX5_writeName_7 (by decide) (by first | exact b01_r | exact bz_r | omega | (constructor <;> omega) | apply_assumption | (apply atF_r; assumption) | fail "no range") (by first | exact b01_r | exact bz_r | omega | (constructor <;> omega) | apply_assumption | (apply atF_r; assumption) | fail "no range") (fun c_7 => ?_) (fun c_7 => ?_)
    · refine r_return (pc := 29) dX5_writeName_29 rfl ?_
      exfalso; omega
    · refine r_aload_n (pc := 10) dX5_writeName_10 rfl (by first | rfl | exact isRefV_rf _) ?_
      refine r_getf (pc := 11) dX5_writeName_11 fX5_14 (by first | assumption | exact isI.gx (by assumption) | exact isI.gc (by assumption) | exact isW.gx (by assumption) | exact isW.gF (by assumption) | exact isW.gT (by assumption) (by omega) | exact isW.gS (by assumption) (by omega) | exact isW.gK (by assumption) (by omega) | exact isW.g1 (by assumption) | exact isW.g2 (by assumption) | exact isW.g3 (by assumption) | exact isI.gx (isW.i0 (by assumption)) | exact isI.gc (isW.i0 (by assumption)) | exact isI.gx (isW.i1 (by assumption)) | exact isI.gc (isW.i1 (by assumption)) | exact isI.gx (isW.i2 (by assumption)) | exact isI.gc (isW.i2 (by assumption)) | exact isI.gx (isW.i3 (by assumption)) | exact isI.gc (isW.i3 (by assumption)) | exact isI.gx (isW.i4 (by assumption)) | exact isI.gc (isW.i4 (by assumption)) | exact isI.gx (isW.i5 (by assumption)) | exact isI.gc (isW.i5 (by assumption)) | exact isR.gx (by assumption) | exact isRd.gx (by assumption) | exact isSp.gx (by assumption) | exact isI.gx (isR.i (by assumption)) | exact isI.gx (isRd.i (by assumption)) | exact isI.gc (isRd.i (by assumption)) | exact isI.gx (isSp.i (by assumption)) | exact isW.gx (isR.w (by assumption)) | exact isW.gF (isR.w (by assumption)) | exact isK.gx (by assumption) | exact isK.gr (by assumption) | exact isI.gx (isK.row (by assumption) (by omega)) | exact isI.gc (isK.row (by assumption) (by omega)) | exact isSs.gx (by assumption) | exact isSs.gi (by assumption) | fail "no such object") (by rfl) ?_
      refine r_lload_n (pc := 14) dX5_writeName_14 rfl ?_
      refine r_iload_n (pc := 15) dX5_writeName_15 rfl ?_
      refine r_callS2 (pc := 16) dX5_writeName_16 qX10_letterOf kX5_74 sX10_letterOf (Nat.le_of_ble_eq_true rfl) (cz_letterOf _ (y := y) (i := (i : Int)) ⟨by omega, by omega⟩) (fun v_16 h_16 q_16 => ?_)
      obtain ⟨rfl, rfl⟩ := q_16
      refine r_callV1 (pc := 19) dX5_writeName_19 qX1_append kX5_37 vX1_append (by first | assumption | exact isI.gx (by assumption) | exact isI.gc (by assumption) | exact isW.gx (by assumption) | exact isW.gF (by assumption) | exact isW.gT (by assumption) (by omega) | exact isW.gS (by assumption) (by omega) | exact isW.gK (by assumption) (by omega) | exact isW.g1 (by assumption) | exact isW.g2 (by assumption) | exact isW.g3 (by assumption) | exact isI.gx (isW.i0 (by assumption)) | exact isI.gc (isW.i0 (by assumption)) | exact isI.gx (isW.i1 (by assumption)) | exact isI.gc (isW.i1 (by assumption)) | exact isI.gx (isW.i2 (by assumption)) | exact isI.gc (isW.i2 (by assumption)) | exact isI.gx (isW.i3 (by assumption)) | exact isI.gc (isW.i3 (by assumption)) | exact isI.gx (isW.i4 (by assumption)) | exact isI.gc (isW.i4 (by assumption)) | exact isI.gx (isW.i5 (by assumption)) | exact isI.gc (isW.i5 (by assumption)) | exact isR.gx (by assumption) | exact isRd.gx (by assumption) | exact isSp.gx (by assumption) | exact isI.gx (isR.i (by assumption)) | exact isI.gx (isRd.i (by assumption)) | exact isI.gc (isRd.i (by assumption)) | exact isI.gx (isSp.i (by assumption)) | exact isW.gx (isR.w (by assumption)) | exact isW.gF (isR.w (by assumption)) | exact isK.gx (by assumption) | exact isK.gr (by assumption) | exact isI.gx (isK.row (by assumption) (by omega)) | exact isI.gc (isK.row (by assumption) (by omega)) | exact isSs.gx (by assumption) | exact isSs.gi (by assumption) | fail "no such object") rfl rfl (Nat.le_of_ble_eq_true rfl) (cs_app _ I (letV y i)) (fun v_19 h_19 q_19 => ?_)
      obtain ⟨⟨b_19, rfl⟩, I_19, S_19⟩ := q_19
      refine r_pop (pc := 22) dX5_writeName_22 (by first | rfl | (cases ‹Option Nat› <;> rfl)) ?_
      refine rj_iinc (pc := 23) dX5_writeName_23 (Nat.le_of_ble_eq_true rfl) rfl ?_
      dsimp only [lsSt, List.set, mLs, mEnt]
      refine r_goto (pc := 26) (tgt := 2) dX5_writeName_26 (by decide) ?_
      have y2 := ih (i + 1) _ _ (by omega) I_19
      rw [show ((i + 1 : Nat) : Int) = (i : Int) + 1 by omega] at y2
      exact y2.mono (fun v h' q => ⟨q.1, q.2.1, S_19.trans q.2.2⟩)
set_option maxHeartbeats 4000000 in
set_option maxRecDepth 100000 in
theorem cs_name {G : mG} {l : Launch} (d : Nat) {h : mH} {a : Nat} {s : (Nat → Int) × Int} (I : isSs h a s) {y : Int64} : RUNM G l (d + 2) mX5_writeName [.ref a, .long y] h (fun v h' => v = none ∧ isSs h' a (apS s (nmLs y)) ∧ Same (dBlk a) h h') := by
  have r7 := lnL_r7 (y := y) 7 0
  refine RUNM.of (by decide +kernel) (Nat.le_of_ble_eq_true rfl) ?_
  refine rj_iconst (pc := 0) dX5_writeName_0 ?_
  refine r_istore_n (pc := 1) dX5_writeName_1 (Nat.le_of_ble_eq_true rfl) ?_
  dsimp only [lsSt, List.set, mLs, mEnt]
  exact L_wName d (N := (lnL y 7 0).toNat) (by omega) (by omega) (lnL y 7 0).toNat 0 h s (by omega) I
def dgV (u p : Int) : Int := 48 + (u / p - u / p / 10 * 10)
def dgL (u : Int) : Nat → List Int
  | 0 => [dgV u 1]
  | k + 1 => if tenP (k + 1) ≤ u then dgV u (tenP (k + 1)) :: dgL u k else dgL u k
def nbLs (v : Int) : List Int := if v < 0 then 45 :: dgL (-v) 4 else dgL v 4
theorem tenP_d (k : Nat) : tenP (k + 1) / 10 = tenP k := by
  have : tenP (k + 1) = 10 * tenP k := rfl
  omega
theorem tenP_m {k : Nat} (h : k ≤ 4) : 1 ≤ tenP k ∧ tenP k ≤ 10000 := by
  match k, h with
  | 0, _ => decide
  | 1, _ => decide
  | 2, _ => decide
  | 3, _ => decide
  | 4, _ => decide
set_option maxHeartbeats 4000000 in
set_option maxRecDepth 100000 in
theorem L_wNum0 {G : mG} {l : Launch} (d : Nat) {a : Nat} {v0 u : Int} {h : mH} {s : (Nat → Int) × Int} (I : isSs h a s) : RUN G l (d + 1) mX5_writeNumber 29 [some (.ref a), some (.int (J v0)), some (.int (J u)), some (.int (J (0)))] [] h (fun v h' => v = none ∧ isSs h' a s ∧ Same (dBlk a) h h') := by
  refine r_iload_n (pc := 29) dX5_writeNumber_29 rfl ?_
  refine rj_if_le (pc := 30) (tgt := 68) dX5_writeNumber_30 (by decide) (by first | exact b01_r | exact bz_r | omega | (constructor <;> omega) | apply_assumption | (apply atF_r; assumption) | fail "no range") (fun c_30 => ?_) (fun c_30 => ?_)
  · refine r_return (pc := 68) dX5_writeNumber_68 rfl ?_
    exact ⟨rfl, I, Same.refl⟩
  · exfalso; omega
set_option maxHeartbeats 4000000 in
set_option maxRecDepth 100000 in
theorem L_wNum {G : mG} {l : Launch} (d : Nat) {a : Nat} {v0 u : Int} (hu : 0 ≤ u ∧ u < 1000000) : ∀ (k : Nat) (h : mH) (s : (Nat → Int) × Int), k ≤ 4 → isSs h a s → RUN G l (d + 1) mX5_writeNumber 29 [some (.ref a), some (.int (J v0)), some (.int (J u)), some (.int (J (tenP k)))] [] h (fun v h' => v = none ∧ isSs h' a (apS s (dgL u k)) ∧ Same (dBlk a) h h') := by
  intro k
  induction k with
  | zero =>
    intro h s hk I
    rw [show tenP 0 = (1 : Int) from rfl]
    refine r_iload_n (pc := 29) dX5_writeNumber_29 rfl ?_
    refine rj_if_le (pc := 30) (tgt := 68) dX5_writeNumber_30 (by decide) (by first | exact b01_r | exact bz_r | omega | (constructor <;> omega) | apply_assumption | (apply atF_r; assumption) | fail "no range") (fun c_30 => ?_) (fun c_30 => ?_)
    · refine r_return (pc := 68) dX5_writeNumber_68 rfl ?_
      exfalso; omega
    · refine r_iload_n (pc := 33) dX5_writeNumber_33 rfl ?_
      refine r_iload_n (pc := 34) dX5_writeNumber_34 rfl ?_
      refine rj_icmp_ge (pc := 35) (tgt := 43) dX5_writeNumber_35 (by decide) (by first | exact b01_r | exact bz_r | omega | (constructor <;> omega) | apply_assumption | (apply atF_r; assumption) | fail "no range") (by first | exact b01_r | exact bz_r | omega | (constructor <;> omega) | apply_assumption | (apply atF_r; assumption) | fail "no range") (fun c_35 => ?_) (fun c_35 => ?_)
      · refine r_aload_n (pc := 43) dX5_writeNumber_43 rfl (by first | rfl | exact isRefV_rf _) ?_
        refine r_getf (pc := 44) dX5_writeNumber_44 fX5_14 (by first | assumption | exact isI.gx (by assumption) | exact isI.gc (by assumption) | exact isW.gx (by assumption) | exact isW.gF (by assumption) | exact isW.gT (by assumption) (by omega) | exact isW.gS (by assumption) (by omega) | exact isW.gK (by assumption) (by omega) | exact isW.g1 (by assumption) | exact isW.g2 (by assumption) | exact isW.g3 (by assumption) | exact isI.gx (isW.i0 (by assumption)) | exact isI.gc (isW.i0 (by assumption)) | exact isI.gx (isW.i1 (by assumption)) | exact isI.gc (isW.i1 (by assumption)) | exact isI.gx (isW.i2 (by assumption)) | exact isI.gc (isW.i2 (by assumption)) | exact isI.gx (isW.i3 (by assumption)) | exact isI.gc (isW.i3 (by assumption)) | exact isI.gx (isW.i4 (by assumption)) | exact isI.gc (isW.i4 (by assumption)) | exact isI.gx (isW.i5 (by assumption)) | exact isI.gc (isW.i5 (by assumption)) | exact isR.gx (by assumption) | exact isRd.gx (by assumption) | exact isSp.gx (by assumption) | exact isI.gx (isR.i (by assumption)) | exact isI.gx (isRd.i (by assumption)) | exact isI.gc (isRd.i (by assumption)) | exact isI.gx (isSp.i (by assumption)) | exact isW.gx (isR.w (by assumption)) | exact isW.gF (isR.w (by assumption)) | exact isK.gx (by assumption) | exact isK.gr (by assumption) | exact isI.gx (isK.row (by assumption) (by omega)) | exact isI.gc (isK.row (by assumption) (by omega)) | exact isSs.gx (by assumption) | exact isSs.gi (by assumption) | fail "no such object") (by rfl) ?_
        refine rj_bipush (pc := 47) dX5_writeNumber_47 (by decide +kernel) ?_
        refine r_iload_n (pc := 49) dX5_writeNumber_49 rfl ?_
        refine r_iload_n (pc := 50) dX5_writeNumber_50 rfl ?_
        refine r_idiv (pc := 51) dX5_writeNumber_51 (J_nz ⟨by omega, by omega⟩ (by omega)) ?_
        rw [J_div (x := u) (y := 1) ⟨by omega, by omega⟩ ⟨by omega, by omega⟩ (by omega)]
        refine rj_bipush (pc := 52) dX5_writeNumber_52 (by decide +kernel) ?_
        have q0 : 0 ≤ u / 1 := Int.ediv_nonneg (by omega) (by omega)
        have q1 : u / 1 ≤ u := Int.ediv_le_self _ (by omega)
        refine r_irem (pc := 54) dX5_writeNumber_54 (J_nz (by decide) (by decide)) ?_
        rw [J_div (x := u / 1) (y := 10) ⟨by omega, by omega⟩ (by decide) q0, J_mul, J_sub]
        refine rj_iadd (pc := 55) dX5_writeNumber_55 ?_
        refine r_callV1 (pc := 56) dX5_writeNumber_56 qX1_append kX5_37 vX1_append (by first | assumption | exact isI.gx (by assumption) | exact isI.gc (by assumption) | exact isW.gx (by assumption) | exact isW.gF (by assumption) | exact isW.gT (by assumption) (by omega) | exact isW.gS (by assumption) (by omega) | exact isW.gK (by assumption) (by omega) | exact isW.g1 (by assumption) | exact isW.g2 (by assumption) | exact isW.g3 (by assumption) | exact isI.gx (isW.i0 (by assumption)) | exact isI.gc (isW.i0 (by assumption)) | exact isI.gx (isW.i1 (by assumption)) | exact isI.gc (isW.i1 (by assumption)) | exact isI.gx (isW.i2 (by assumption)) | exact isI.gc (isW.i2 (by assumption)) | exact isI.gx (isW.i3 (by assumption)) | exact isI.gc (isW.i3 (by assumption)) | exact isI.gx (isW.i4 (by assumption)) | exact isI.gc (isW.i4 (by assumption)) | exact isI.gx (isW.i5 (by assumption)) | exact isI.gc (isW.i5 (by assumption)) | exact isR.gx (by assumption) | exact isRd.gx (by assumption) | exact isSp.gx (by assumption) | exact isI.gx (isR.i (by assumption)) | exact isI.gx (isRd.i (by assumption)) | exact isI.gc (isRd.i (by assumption)) | exact isI.gx (isSp.i (by assumption)) | exact isW.gx (isR.w (by assumption)) | exact isW.gF (isR.w (by assumption)) | exact isK.gx (by assumption) | exact isK.gr (by assumption) | exact isI.gx (isK.row (by assumption) (by omega)) | exact isI.gc (isK.row (by assumption) (by omega)) | exact isSs.gx (by assumption) | exact isSs.gi (by assumption) | fail "no such object") rfl rfl (Nat.le_of_ble_eq_true rfl) (cs_app _ I (48 + (u / 1 - u / 1 / 10 * 10))) (fun v_56 h_56 q_56 => ?_)
        obtain ⟨⟨b_56, rfl⟩, I_56, S_56⟩ := q_56
        refine r_pop (pc := 59) dX5_writeNumber_59 (by first | rfl | (cases ‹Option Nat› <;> rfl)) ?_
        refine r_iload_n (pc := 60) dX5_writeNumber_60 rfl ?_
        refine rj_bipush (pc := 61) dX5_writeNumber_61 (by decide +kernel) ?_
        refine r_idiv (pc := 63) dX5_writeNumber_63 (J_nz ⟨by omega, by omega⟩ (by omega)) ?_
        rw [J_div (x := 1) (y := 10) ⟨by omega, by omega⟩ ⟨by omega, by omega⟩ (by omega)]
        refine r_istore_n (pc := 64) dX5_writeNumber_64 (Nat.le_of_ble_eq_true rfl) ?_
        dsimp only [lsSt, List.set, mLs, mEnt]
        refine r_goto (pc := 65) (tgt := 29) dX5_writeNumber_65 (by decide) ?_
        rw [show (1 : Int) / 10 = 0 from rfl]
        exact (L_wNum0 d I_56).mono (fun v h' q => ⟨q.1, q.2.1, S_56.trans q.2.2⟩)
      · refine r_iload_n (pc := 38) dX5_writeNumber_38 rfl ?_
        refine rj_iconst (pc := 39) dX5_writeNumber_39 ?_
        refine rj_icmp_ne (pc := 40) (tgt := 60) dX5_writeNumber_40 (by decide) (by first | exact b01_r | exact bz_r | omega | (constructor <;> omega) | apply_assumption | (apply atF_r; assumption) | fail "no range") (by first | exact b01_r | exact bz_r | omega | (constructor <;> omega) | apply_assumption | (apply atF_r; assumption) | fail "no range") (fun c_40 => ?_) (fun c_40 => ?_)
        · refine r_iload_n (pc := 60) dX5_writeNumber_60 rfl ?_
          refine rj_bipush (pc := 61) dX5_writeNumber_61 (by decide +kernel) ?_
          refine r_idiv (pc := 63) dX5_writeNumber_63 (J_nz ⟨by omega, by omega⟩ (by omega)) ?_
          rw [J_div (x := 1) (y := 10) ⟨by omega, by omega⟩ ⟨by omega, by omega⟩ (by omega)]
          refine r_istore_n (pc := 64) dX5_writeNumber_64 (Nat.le_of_ble_eq_true rfl) ?_
          dsimp only [lsSt, List.set, mLs, mEnt]
          refine r_goto (pc := 65) (tgt := 29) dX5_writeNumber_65 (by decide) ?_
          exfalso; first | omega | exact absurd rfl c_40 | exact absurd c_40 (by decide) | exact absurd trivial ‹¬ True›
        · refine r_aload_n (pc := 43) dX5_writeNumber_43 rfl (by first | rfl | exact isRefV_rf _) ?_
          refine r_getf (pc := 44) dX5_writeNumber_44 fX5_14 (by first | assumption | exact isI.gx (by assumption) | exact isI.gc (by assumption) | exact isW.gx (by assumption) | exact isW.gF (by assumption) | exact isW.gT (by assumption) (by omega) | exact isW.gS (by assumption) (by omega) | exact isW.gK (by assumption) (by omega) | exact isW.g1 (by assumption) | exact isW.g2 (by assumption) | exact isW.g3 (by assumption) | exact isI.gx (isW.i0 (by assumption)) | exact isI.gc (isW.i0 (by assumption)) | exact isI.gx (isW.i1 (by assumption)) | exact isI.gc (isW.i1 (by assumption)) | exact isI.gx (isW.i2 (by assumption)) | exact isI.gc (isW.i2 (by assumption)) | exact isI.gx (isW.i3 (by assumption)) | exact isI.gc (isW.i3 (by assumption)) | exact isI.gx (isW.i4 (by assumption)) | exact isI.gc (isW.i4 (by assumption)) | exact isI.gx (isW.i5 (by assumption)) | exact isI.gc (isW.i5 (by assumption)) | exact isR.gx (by assumption) | exact isRd.gx (by assumption) | exact isSp.gx (by assumption) | exact isI.gx (isR.i (by assumption)) | exact isI.gx (isRd.i (by assumption)) | exact isI.gc (isRd.i (by assumption)) | exact isI.gx (isSp.i (by assumption)) | exact isW.gx (isR.w (by assumption)) | exact isW.gF (isR.w (by assumption)) | exact isK.gx (by assumption) | exact isK.gr (by assumption) | exact isI.gx (isK.row (by assumption) (by omega)) | exact isI.gc (isK.row (by assumption) (by omega)) | exact isSs.gx (by assumption) | exact isSs.gi (by assumption) | fail "no such object") (by rfl) ?_
          refine rj_bipush (pc := 47) dX5_writeNumber_47 (by decide +kernel) ?_
          refine r_iload_n (pc := 49) dX5_writeNumber_49 rfl ?_
          refine r_iload_n (pc := 50) dX5_writeNumber_50 rfl ?_
          refine r_idiv (pc := 51) dX5_writeNumber_51 (J_nz ⟨by omega, by omega⟩ (by omega)) ?_
          rw [J_div (x := u) (y := 1) ⟨by omega, by omega⟩ ⟨by omega, by omega⟩ (by omega)]
          refine rj_bipush (pc := 52) dX5_writeNumber_52 (by decide +kernel) ?_
          have q0 : 0 ≤ u / 1 := Int.ediv_nonneg (by omega) (by omega)
          have q1 : u / 1 ≤ u := Int.ediv_le_self _ (by omega)
          refine r_irem (pc := 54) dX5_writeNumber_54 (J_nz (by decide) (by decide)) ?_
          rw [J_div (x := u / 1) (y := 10) ⟨by omega, by omega⟩ (by decide) q0, J_mul, J_sub]
          refine rj_iadd (pc := 55) dX5_writeNumber_55 ?_
          refine r_callV1 (pc := 56) dX5_writeNumber_56 qX1_append kX5_37 vX1_append (by first | assumption | exact isI.gx (by assumption) | exact isI.gc (by assumption) | exact isW.gx (by assumption) | exact isW.gF (by assumption) | exact isW.gT (by assumption) (by omega) | exact isW.gS (by assumption) (by omega) | exact isW.gK (by assumption) (by omega) | exact isW.g1 (by assumption) | exact isW.g2 (by assumption) | exact isW.g3 (by assumption) | exact isI.gx (isW.i0 (by assumption)) | exact isI.gc (isW.i0 (by assumption)) | exact isI.gx (isW.i1 (by assumption)) | exact isI.gc (isW.i1 (by assumption)) | exact isI.gx (isW.i2 (by assumption)) | exact isI.gc (isW.i2 (by assumption)) | exact isI.gx (isW.i3 (by assumption)) | exact isI.gc (isW.i3 (by assumption)) | exact isI.gx (isW.i4 (by assumption)) | exact isI.gc (isW.i4 (by assumption)) | exact isI.gx (isW.i5 (by assumption)) | exact isI.gc (isW.i5 (by assumption)) | exact isR.gx (by assumption) | exact isRd.gx (by assumption) | exact isSp.gx (by assumption) | exact isI.gx (isR.i (by assumption)) | exact isI.gx (isRd.i (by assumption)) | exact isI.gc (isRd.i (by assumption)) | exact isI.gx (isSp.i (by assumption)) | exact isW.gx (isR.w (by assumption)) | exact isW.gF (isR.w (by assumption)) | exact isK.gx (by assumption) | exact isK.gr (by assumption) | exact isI.gx (isK.row (by assumption) (by omega)) | exact isI.gc (isK.row (by assumption) (by omega)) | exact isSs.gx (by assumption) | exact isSs.gi (by assumption) | fail "no such object") rfl rfl (Nat.le_of_ble_eq_true rfl) (cs_app _ I (48 + (u / 1 - u / 1 / 10 * 10))) (fun v_56 h_56 q_56 => ?_)
          obtain ⟨⟨b_56, rfl⟩, I_56, S_56⟩ := q_56
          refine r_pop (pc := 59) dX5_writeNumber_59 (by first | rfl | (cases ‹Option Nat› <;> rfl)) ?_
          refine r_iload_n (pc := 60) dX5_writeNumber_60 rfl ?_
          refine rj_bipush (pc := 61) dX5_writeNumber_61 (by decide +kernel) ?_
          refine r_idiv (pc := 63) dX5_writeNumber_63 (J_nz ⟨by omega, by omega⟩ (by omega)) ?_
          rw [J_div (x := 1) (y := 10) ⟨by omega, by omega⟩ ⟨by omega, by omega⟩ (by omega)]
          refine r_istore_n (pc := 64) dX5_writeNumber_64 (Nat.le_of_ble_eq_true rfl) ?_
          dsimp only [lsSt, List.set, mLs, mEnt]
          refine r_goto (pc := 65) (tgt := 29) dX5_writeNumber_65 (by decide) ?_
          rw [show (1 : Int) / 10 = 0 from rfl]
          exact (L_wNum0 d I_56).mono (fun v h' q => ⟨q.1, q.2.1, S_56.trans q.2.2⟩)
  | succ k ih =>
    intro h s hk I
    have t1 := tenP_m hk
    have t2 : tenP (k + 1) = 10 * tenP k := rfl
    have t3 := tenP_1 k
    refine r_iload_n (pc := 29) dX5_writeNumber_29 rfl ?_
    refine rj_if_le (pc := 30) (tgt := 68) dX5_writeNumber_30 (by decide) (by first | exact b01_r | exact bz_r | omega | (constructor <;> omega) | apply_assumption | (apply atF_r; assumption) | fail "no range") (fun c_30 => ?_) (fun c_30 => ?_)
    · refine r_return (pc := 68) dX5_writeNumber_68 rfl ?_
      exfalso; omega
    · refine r_iload_n (pc := 33) dX5_writeNumber_33 rfl ?_
      refine r_iload_n (pc := 34) dX5_writeNumber_34 rfl ?_
      refine rj_icmp_ge (pc := 35) (tgt := 43) dX5_writeNumber_35 (by decide) (by first | exact b01_r | exact bz_r | omega | (constructor <;> omega) | apply_assumption | (apply atF_r; assumption) | fail "no range") (by first | exact b01_r | exact bz_r | omega | (constructor <;> omega) | apply_assumption | (apply atF_r; assumption) | fail "no range") (fun c_35 => ?_) (fun c_35 => ?_)
      · refine r_aload_n (pc := 43) dX5_writeNumber_43 rfl (by first | rfl | exact isRefV_rf _) ?_
        refine r_getf (pc := 44) dX5_writeNumber_44 fX5_14 (by first | assumption | exact isI.gx (by assumption) | exact isI.gc (by assumption) | exact isW.gx (by assumption) | exact isW.gF (by assumption) | exact isW.gT (by assumption) (by omega) | exact isW.gS (by assumption) (by omega) | exact isW.gK (by assumption) (by omega) | exact isW.g1 (by assumption) | exact isW.g2 (by assumption) | exact isW.g3 (by assumption) | exact isI.gx (isW.i0 (by assumption)) | exact isI.gc (isW.i0 (by assumption)) | exact isI.gx (isW.i1 (by assumption)) | exact isI.gc (isW.i1 (by assumption)) | exact isI.gx (isW.i2 (by assumption)) | exact isI.gc (isW.i2 (by assumption)) | exact isI.gx (isW.i3 (by assumption)) | exact isI.gc (isW.i3 (by assumption)) | exact isI.gx (isW.i4 (by assumption)) | exact isI.gc (isW.i4 (by assumption)) | exact isI.gx (isW.i5 (by assumption)) | exact isI.gc (isW.i5 (by assumption)) | exact isR.gx (by assumption) | exact isRd.gx (by assumption) | exact isSp.gx (by assumption) | exact isI.gx (isR.i (by assumption)) | exact isI.gx (isRd.i (by assumption)) | exact isI.gc (isRd.i (by assumption)) | exact isI.gx (isSp.i (by assumption)) | exact isW.gx (isR.w (by assumption)) | exact isW.gF (isR.w (by assumption)) | exact isK.gx (by assumption) | exact isK.gr (by assumption) | exact isI.gx (isK.row (by assumption) (by omega)) | exact isI.gc (isK.row (by assumption) (by omega)) | exact isSs.gx (by assumption) | exact isSs.gi (by assumption) | fail "no such object") (by rfl) ?_
        refine rj_bipush (pc := 47) dX5_writeNumber_47 (by decide +kernel) ?_
        refine r_iload_n (pc := 49) dX5_writeNumber_49 rfl ?_
        refine r_iload_n (pc := 50) dX5_writeNumber_50 rfl ?_
        refine r_idiv (pc := 51) dX5_writeNumber_51 (J_nz ⟨by omega, by omega⟩ (by omega)) ?_
        rw [J_div (x := u) (y := tenP (k + 1)) ⟨by omega, by omega⟩ ⟨by omega, by omega⟩ (by omega)]
        refine rj_bipush (pc := 52) dX5_writeNumber_52 (by decide +kernel) ?_
        have q0 : 0 ≤ u / tenP (k + 1) := Int.ediv_nonneg (by omega) (by omega)
        have q1 : u / tenP (k + 1) ≤ u := Int.ediv_le_self _ (by omega)
        refine r_irem (pc := 54) dX5_writeNumber_54 (J_nz (by decide) (by decide)) ?_
        rw [J_div (x := u / tenP (k + 1)) (y := 10) ⟨by omega, by omega⟩ (by decide) q0, J_mul, J_sub]
        refine rj_iadd (pc := 55) dX5_writeNumber_55 ?_
        refine r_callV1 (pc := 56) dX5_writeNumber_56 qX1_append kX5_37 vX1_append (by first | assumption | exact isI.gx (by assumption) | exact isI.gc (by assumption) | exact isW.gx (by assumption) | exact isW.gF (by assumption) | exact isW.gT (by assumption) (by omega) | exact isW.gS (by assumption) (by omega) | exact isW.gK (by assumption) (by omega) | exact isW.g1 (by assumption) | exact isW.g2 (by assumption) | exact isW.g3 (by assumption) | exact isI.gx (isW.i0 (by assumption)) | exact isI.gc (isW.i0 (by assumption)) | exact isI.gx (isW.i1 (by assumption)) | exact isI.gc (isW.i1 (by assumption)) | exact isI.gx (isW.i2 (by assumption)) | exact isI.gc (isW.i2 (by assumption)) | exact isI.gx (isW.i3 (by assumption)) | exact isI.gc (isW.i3 (by assumption)) | exact isI.gx (isW.i4 (by assumption)) | exact isI.gc (isW.i4 (by assumption)) | exact isI.gx (isW.i5 (by assumption)) | exact isI.gc (isW.i5 (by assumption)) | exact isR.gx (by assumption) | exact isRd.gx (by assumption) | exact isSp.gx (by assumption) | exact isI.gx (isR.i (by assumption)) | exact isI.gx (isRd.i (by assumption)) | exact isI.gc (isRd.i (by assumption)) | exact isI.gx (isSp.i (by assumption)) | exact isW.gx (isR.w (by assumption)) | exact isW.gF (isR.w (by assumption)) | exact isK.gx (by assumption) | exact isK.gr (by assumption) | exact isI.gx (isK.row (by assumption) (by omega)) | exact isI.gc (isK.row (by assumption) (by omega)) | exact isSs.gx (by assumption) | exact isSs.gi (by assumption) | fail "no such object") rfl rfl (Nat.le_of_ble_eq_true rfl) (cs_app _ I (48 + (u / tenP (k + 1) - u / tenP (k + 1) / 10 * 10))) (fun v_56 h_56 q_56 => ?_)
        obtain ⟨⟨b_56, rfl⟩, I_56, S_56⟩ := q_56
        refine r_pop (pc := 59) dX5_writeNumber_59 (by first | rfl | (cases ‹Option Nat› <;> rfl)) ?_
        refine r_iload_n (pc := 60) dX5_writeNumber_60 rfl ?_
        refine rj_bipush (pc := 61) dX5_writeNumber_61 (by decide +kernel) ?_
        refine r_idiv (pc := 63) dX5_writeNumber_63 (J_nz ⟨by omega, by omega⟩ (by omega)) ?_
        rw [J_div (x := tenP (k + 1)) (y := 10) ⟨by omega, by omega⟩ ⟨by omega, by omega⟩ (by omega)]
        refine r_istore_n (pc := 64) dX5_writeNumber_64 (Nat.le_of_ble_eq_true rfl) ?_
        dsimp only [lsSt, List.set, mLs, mEnt]
        refine r_goto (pc := 65) (tgt := 29) dX5_writeNumber_65 (by decide) ?_
        rw [tenP_d k]
        have y2 := ih _ _ (by omega) I_56
        rw [show dgL u (k + 1) = dgV u (tenP (k + 1)) :: dgL u k by unfold dgL; rw [if_pos (by omega)]; cases k <;> rfl]
        exact y2.mono (fun v h' q => ⟨q.1, q.2.1, S_56.trans q.2.2⟩)
      · refine r_iload_n (pc := 38) dX5_writeNumber_38 rfl ?_
        refine rj_iconst (pc := 39) dX5_writeNumber_39 ?_
        refine rj_icmp_ne (pc := 40) (tgt := 60) dX5_writeNumber_40 (by decide) (by first | exact b01_r | exact bz_r | omega | (constructor <;> omega) | apply_assumption | (apply atF_r; assumption) | fail "no range") (by first | exact b01_r | exact bz_r | omega | (constructor <;> omega) | apply_assumption | (apply atF_r; assumption) | fail "no range") (fun c_40 => ?_) (fun c_40 => ?_)
        · refine r_iload_n (pc := 60) dX5_writeNumber_60 rfl ?_
          refine rj_bipush (pc := 61) dX5_writeNumber_61 (by decide +kernel) ?_
          refine r_idiv (pc := 63) dX5_writeNumber_63 (J_nz ⟨by omega, by omega⟩ (by omega)) ?_
          rw [J_div (x := tenP (k + 1)) (y := 10) ⟨by omega, by omega⟩ ⟨by omega, by omega⟩ (by omega)]
          refine r_istore_n (pc := 64) dX5_writeNumber_64 (Nat.le_of_ble_eq_true rfl) ?_
          dsimp only [lsSt, List.set, mLs, mEnt]
          refine r_goto (pc := 65) (tgt := 29) dX5_writeNumber_65 (by decide) ?_
          rw [tenP_d k]
          rw [show dgL u (k + 1) = dgL u k by rw [dgL]; rw [if_neg (by omega)]]
          exact ih h s (by omega) I
        · refine r_aload_n (pc := 43) dX5_writeNumber_43 rfl (by first | rfl | exact isRefV_rf _) ?_
          refine r_getf (pc := 44) dX5_writeNumber_44 fX5_14 (by first | assumption | exact isI.gx (by assumption) | exact isI.gc (by assumption) | exact isW.gx (by assumption) | exact isW.gF (by assumption) | exact isW.gT (by assumption) (by omega) | exact isW.gS (by assumption) (by omega) | exact isW.gK (by assumption) (by omega) | exact isW.g1 (by assumption) | exact isW.g2 (by assumption) | exact isW.g3 (by assumption) | exact isI.gx (isW.i0 (by assumption)) | exact isI.gc (isW.i0 (by assumption)) | exact isI.gx (isW.i1 (by assumption)) | exact isI.gc (isW.i1 (by assumption)) | exact isI.gx (isW.i2 (by assumption)) | exact isI.gc (isW.i2 (by assumption)) | exact isI.gx (isW.i3 (by assumption)) | exact isI.gc (isW.i3 (by assumption)) | exact isI.gx (isW.i4 (by assumption)) | exact isI.gc (isW.i4 (by assumption)) | exact isI.gx (isW.i5 (by assumption)) | exact isI.gc (isW.i5 (by assumption)) | exact isR.gx (by assumption) | exact isRd.gx (by assumption) | exact isSp.gx (by assumption) | exact isI.gx (isR.i (by assumption)) | exact isI.gx (isRd.i (by assumption)) | exact isI.gc (isRd.i (by assumption)) | exact isI.gx (isSp.i (by assumption)) | exact isW.gx (isR.w (by assumption)) | exact isW.gF (isR.w (by assumption)) | exact isK.gx (by assumption) | exact isK.gr (by assumption) | exact isI.gx (isK.row (by assumption) (by omega)) | exact isI.gc (isK.row (by assumption) (by omega)) | exact isSs.gx (by assumption) | exact isSs.gi (by assumption) | fail "no such object") (by rfl) ?_
          refine rj_bipush (pc := 47) dX5_writeNumber_47 (by decide +kernel) ?_
          refine r_iload_n (pc := 49) dX5_writeNumber_49 rfl ?_
          refine r_iload_n (pc := 50) dX5_writeNumber_50 rfl ?_
          refine r_idiv (pc := 51) dX5_writeNumber_51 (J_nz ⟨by omega, by omega⟩ (by omega)) ?_
          rw [J_div (x := u) (y := tenP (k + 1)) ⟨by omega, by omega⟩ ⟨by omega, by omega⟩ (by omega)]
          refine rj_bipush (pc := 52) dX5_writeNumber_52 (by decide +kernel) ?_
          have q0 : 0 ≤ u / tenP (k + 1) := Int.ediv_nonneg (by omega) (by omega)
          have q1 : u / tenP (k + 1) ≤ u := Int.ediv_le_self _ (by omega)
          refine r_irem (pc := 54) dX5_writeNumber_54 (J_nz (by decide) (by decide)) ?_
          rw [J_div (x := u / tenP (k + 1)) (y := 10) ⟨by omega, by omega⟩ (by decide) q0, J_mul, J_sub]
          refine rj_iadd (pc := 55) dX5_writeNumber_55 ?_
          refine r_callV1 (pc := 56) dX5_writeNumber_56 qX1_append kX5_37 vX1_append (by first | assumption | exact isI.gx (by assumption) | exact isI.gc (by assumption) | exact isW.gx (by assumption) | exact isW.gF (by assumption) | exact isW.gT (by assumption) (by omega) | exact isW.gS (by assumption) (by omega) | exact isW.gK (by assumption) (by omega) | exact isW.g1 (by assumption) | exact isW.g2 (by assumption) | exact isW.g3 (by assumption) | exact isI.gx (isW.i0 (by assumption)) | exact isI.gc (isW.i0 (by assumption)) | exact isI.gx (isW.i1 (by assumption)) | exact isI.gc (isW.i1 (by assumption)) | exact isI.gx (isW.i2 (by assumption)) | exact isI.gc (isW.i2 (by assumption)) | exact isI.gx (isW.i3 (by assumption)) | exact isI.gc (isW.i3 (by assumption)) | exact isI.gx (isW.i4 (by assumption)) | exact isI.gc (isW.i4 (by assumption)) | exact isI.gx (isW.i5 (by assumption)) | exact isI.gc (isW.i5 (by assumption)) | exact isR.gx (by assumption) | exact isRd.gx (by assumption) | exact isSp.gx (by assumption) | exact isI.gx (isR.i (by assumption)) | exact isI.gx (isRd.i (by assumption)) | exact isI.gc (isRd.i (by assumption)) | exact isI.gx (isSp.i (by assumption)) | exact isW.gx (isR.w (by assumption)) | exact isW.gF (isR.w (by assumption)) | exact isK.gx (by assumption) | exact isK.gr (by assumption) | exact isI.gx (isK.row (by assumption) (by omega)) | exact isI.gc (isK.row (by assumption) (by omega)) | exact isSs.gx (by assumption) | exact isSs.gi (by assumption) | fail "no such object") rfl rfl (Nat.le_of_ble_eq_true rfl) (cs_app _ I (48 + (u / tenP (k + 1) - u / tenP (k + 1) / 10 * 10))) (fun v_56 h_56 q_56 => ?_)
          obtain ⟨⟨b_56, rfl⟩, I_56, S_56⟩ := q_56
          refine r_pop (pc := 59) dX5_writeNumber_59 (by first | rfl | (cases ‹Option Nat› <;> rfl)) ?_
          refine r_iload_n (pc := 60) dX5_writeNumber_60 rfl ?_
          refine rj_bipush (pc := 61) dX5_writeNumber_61 (by decide +kernel) ?_
          refine r_idiv (pc := 63) dX5_writeNumber_63 (J_nz ⟨by omega, by omega⟩ (by omega)) ?_
          rw [J_div (x := tenP (k + 1)) (y := 10) ⟨by omega, by omega⟩ ⟨by omega, by omega⟩ (by omega)]
          refine r_istore_n (pc := 64) dX5_writeNumber_64 (Nat.le_of_ble_eq_true rfl) ?_
          dsimp only [lsSt, List.set, mLs, mEnt]
          refine r_goto (pc := 65) (tgt := 29) dX5_writeNumber_65 (by decide) ?_
          exfalso; omega
end mg_f4
section mg_f5
/-! ===== the class: the speller, steps ===== -/
abbrev rng6 (v : Int) : Prop := -1000000 < v ∧ v < 1000000
def spK (kd num vl : Int) (y : Int64) (inn : Option Nat) (SL S1 : Nat → List Int → Prop) (L : List Int) : Prop :=
  (kd = 43 → (rng6 num ∧ rng6 vl) ∧ L = kd :: (nbLs num ++ 61 :: nbLs vl)) ∧
  (kd = 33 ∨ kd = 107 → rng6 num ∧ L = kd :: nbLs num) ∧
  (kd = 97 → (inn = none ∧ L = kd :: nmLs y) ∨ ∃ b L2, inn = some b ∧ SL b L2 ∧ L = kd :: (nmLs y ++ 123 :: (L2 ++ [125]))) ∧
  (kd = 120 → L = kd :: nmLs y) ∧
  (kd = 109 → rng6 num ∧ L = kd :: (nmLs y ++ 62 :: nbLs num)) ∧
  (kd = 63 → (rng6 num ∧ rng6 vl) ∧ ∃ b L2, inn = some b ∧ S1 b L2 ∧ L = kd :: ((nbLs num ++ 60 :: nbLs vl) ++ 58 :: L2)) ∧
  (¬ kd = 43 → ¬ kd = 33 → ¬ kd = 107 → ¬ kd = 97 → ¬ kd = 120 → ¬ kd = 109 → ¬ kd = 63 → L = [kd])
/-- what is written of a step (false), of steps (true) -/
def wX (S : Nat → Option mO) : Nat → Bool → Nat → Nat → List Int → Prop
  | 0, _, _, _, _ => False
  | n + 1, false, t, q, L => (8 < t ∧ L = []) ∨ (t ≤ 8 ∧ ∃ (kd num vl : Int) (y : Int64) (inn nx : Option Nat), S q = some (stO kd num vl y inn nx) ∧ InR kd ∧ spK kd num vl y inn (wX S n true (t + 1)) (wX S n false (t + 1)) L)
  | n + 1, true, t, q, L => ∃ (kd num vl : Int) (y : Int64) (inn nx : Option Nat) (L1 : List Int), S q = some (stO kd num vl y inn nx) ∧ wX S n false t q L1 ∧ ((nx = none ∧ L = L1) ∨ ∃ b L2, nx = some b ∧ wX S n true t b L2 ∧ L = L1 ++ 59 :: L2)
set_option maxHeartbeats 4000000 in
set_option maxRecDepth 100000 in
theorem cs_number {G : mG} {l : Launch} (d : Nat) {h : mH} {a : Nat} {s : (Nat → Int) × Int} (I : isSs h a s) {v0 : Int} (hv : rng6 v0) : RUNM G l (d + 1) mX5_writeNumber [.ref a, .int (J v0)] h (fun v h' => v = none ∧ isSs h' a (apS s (nbLs v0)) ∧ Same (dBlk a) h h') := by
  refine RUNM.of (by decide +kernel) (Nat.le_of_ble_eq_true rfl) ?_
  have II := I
  have ss : Same (dBlk a) h h := Same.refl
  refine r_iload_n (pc := 0) dX5_writeNumber_0 rfl ?_
  refine rj_if_ge (pc := 1) (tgt := 9) dX5_writeNumber_1 (by decide) (by first | exact b01_r | exact bz_r | omega | (constructor <;> omega) | apply_assumption | (apply atF_r; assumption) | fail "no range") (fun c_1 => ?_) (fun c_1 => ?_)
  · refine r_iload_n (pc := 9) dX5_writeNumber_9 rfl ?_
    refine r_istore_n (pc := 10) dX5_writeNumber_10 (Nat.le_of_ble_eq_true rfl) ?_
    dsimp only [lsSt, List.set, mLs, mEnt]
    refine r_iload_n (pc := 11) dX5_writeNumber_11 rfl ?_
    refine rj_if_ge (pc := 12) (tgt := 25) dX5_writeNumber_12 (by decide) (by first | exact b01_r | exact bz_r | omega | (constructor <;> omega) | apply_assumption | (apply atF_r; assumption) | fail "no range") (fun c_12 => ?_) (fun c_12 => ?_)
    · refine rj_sipush (pc := 25) dX5_writeNumber_25 (by decide +kernel) ?_
      refine r_istore_n (pc := 28) dX5_writeNumber_28 (Nat.le_of_ble_eq_true rfl) ?_
      dsimp only [lsSt, List.set, mLs, mEnt]
      have e4 : tenP 4 = 10000 := rfl
      have y := L_wNum (G := G) (l := l) d (v0 := v0) (u := v0) ⟨by omega, by omega⟩ 4 _ _ (Nat.le_refl _) II
      rw [e4] at y
      refine y.mono (fun v h' q => ⟨q.1, ?_, ss.trans q.2.2⟩)
      unfold nbLs
      rw [if_neg (by omega)]
      exact q.2.1
    · refine r_aload_n (pc := 15) dX5_writeNumber_15 rfl (by first | rfl | exact isRefV_rf _) ?_
      refine r_getf (pc := 16) dX5_writeNumber_16 fX5_14 (by first | assumption | exact isI.gx (by assumption) | exact isI.gc (by assumption) | exact isW.gx (by assumption) | exact isW.gF (by assumption) | exact isW.gT (by assumption) (by omega) | exact isW.gS (by assumption) (by omega) | exact isW.gK (by assumption) (by omega) | exact isW.g1 (by assumption) | exact isW.g2 (by assumption) | exact isW.g3 (by assumption) | exact isI.gx (isW.i0 (by assumption)) | exact isI.gc (isW.i0 (by assumption)) | exact isI.gx (isW.i1 (by assumption)) | exact isI.gc (isW.i1 (by assumption)) | exact isI.gx (isW.i2 (by assumption)) | exact isI.gc (isW.i2 (by assumption)) | exact isI.gx (isW.i3 (by assumption)) | exact isI.gc (isW.i3 (by assumption)) | exact isI.gx (isW.i4 (by assumption)) | exact isI.gc (isW.i4 (by assumption)) | exact isI.gx (isW.i5 (by assumption)) | exact isI.gc (isW.i5 (by assumption)) | exact isR.gx (by assumption) | exact isRd.gx (by assumption) | exact isSp.gx (by assumption) | exact isI.gx (isR.i (by assumption)) | exact isI.gx (isRd.i (by assumption)) | exact isI.gc (isRd.i (by assumption)) | exact isI.gx (isSp.i (by assumption)) | exact isW.gx (isR.w (by assumption)) | exact isW.gF (isR.w (by assumption)) | exact isK.gx (by assumption) | exact isK.gr (by assumption) | exact isI.gx (isK.row (by assumption) (by omega)) | exact isI.gc (isK.row (by assumption) (by omega)) | exact isSs.gx (by assumption) | exact isSs.gi (by assumption) | fail "no such object") (by rfl) ?_
      refine rj_bipush (pc := 19) dX5_writeNumber_19 (by decide +kernel) ?_
      refine r_callV1 (pc := 21) dX5_writeNumber_21 qX1_append kX5_37 vX1_append (by first | assumption | exact isI.gx (by assumption) | exact isI.gc (by assumption) | exact isW.gx (by assumption) | exact isW.gF (by assumption) | exact isW.gT (by assumption) (by omega) | exact isW.gS (by assumption) (by omega) | exact isW.gK (by assumption) (by omega) | exact isW.g1 (by assumption) | exact isW.g2 (by assumption) | exact isW.g3 (by assumption) | exact isI.gx (isW.i0 (by assumption)) | exact isI.gc (isW.i0 (by assumption)) | exact isI.gx (isW.i1 (by assumption)) | exact isI.gc (isW.i1 (by assumption)) | exact isI.gx (isW.i2 (by assumption)) | exact isI.gc (isW.i2 (by assumption)) | exact isI.gx (isW.i3 (by assumption)) | exact isI.gc (isW.i3 (by assumption)) | exact isI.gx (isW.i4 (by assumption)) | exact isI.gc (isW.i4 (by assumption)) | exact isI.gx (isW.i5 (by assumption)) | exact isI.gc (isW.i5 (by assumption)) | exact isR.gx (by assumption) | exact isRd.gx (by assumption) | exact isSp.gx (by assumption) | exact isI.gx (isR.i (by assumption)) | exact isI.gx (isRd.i (by assumption)) | exact isI.gc (isRd.i (by assumption)) | exact isI.gx (isSp.i (by assumption)) | exact isW.gx (isR.w (by assumption)) | exact isW.gF (isR.w (by assumption)) | exact isK.gx (by assumption) | exact isK.gr (by assumption) | exact isI.gx (isK.row (by assumption) (by omega)) | exact isI.gc (isK.row (by assumption) (by omega)) | exact isSs.gx (by assumption) | exact isSs.gi (by assumption) | fail "no such object") rfl rfl (Nat.le_of_ble_eq_true rfl) (cs_app _ II 45) (fun v_21 h_21 q_21 => ?_)
      obtain ⟨⟨b_21, rfl⟩, II, S_21⟩ := q_21
      have ss := ss.trans S_21
      refine r_pop (pc := 24) dX5_writeNumber_24 (by first | rfl | (cases ‹Option Nat› <;> rfl)) ?_
      refine rj_sipush (pc := 25) dX5_writeNumber_25 (by decide +kernel) ?_
      refine r_istore_n (pc := 28) dX5_writeNumber_28 (Nat.le_of_ble_eq_true rfl) ?_
      dsimp only [lsSt, List.set, mLs, mEnt]
      exfalso; omega
  · refine r_iload_n (pc := 4) dX5_writeNumber_4 rfl ?_
    refine rj_ineg (pc := 5) dX5_writeNumber_5 ?_
    refine r_goto (pc := 6) (tgt := 10) dX5_writeNumber_6 (by decide) ?_
    refine r_istore_n (pc := 10) dX5_writeNumber_10 (Nat.le_of_ble_eq_true rfl) ?_
    dsimp only [lsSt, List.set, mLs, mEnt]
    refine r_iload_n (pc := 11) dX5_writeNumber_11 rfl ?_
    refine rj_if_ge (pc := 12) (tgt := 25) dX5_writeNumber_12 (by decide) (by first | exact b01_r | exact bz_r | omega | (constructor <;> omega) | apply_assumption | (apply atF_r; assumption) | fail "no range") (fun c_12 => ?_) (fun c_12 => ?_)
    · refine rj_sipush (pc := 25) dX5_writeNumber_25 (by decide +kernel) ?_
      refine r_istore_n (pc := 28) dX5_writeNumber_28 (Nat.le_of_ble_eq_true rfl) ?_
      dsimp only [lsSt, List.set, mLs, mEnt]
      exfalso; omega
    · refine r_aload_n (pc := 15) dX5_writeNumber_15 rfl (by first | rfl | exact isRefV_rf _) ?_
      refine r_getf (pc := 16) dX5_writeNumber_16 fX5_14 (by first | assumption | exact isI.gx (by assumption) | exact isI.gc (by assumption) | exact isW.gx (by assumption) | exact isW.gF (by assumption) | exact isW.gT (by assumption) (by omega) | exact isW.gS (by assumption) (by omega) | exact isW.gK (by assumption) (by omega) | exact isW.g1 (by assumption) | exact isW.g2 (by assumption) | exact isW.g3 (by assumption) | exact isI.gx (isW.i0 (by assumption)) | exact isI.gc (isW.i0 (by assumption)) | exact isI.gx (isW.i1 (by assumption)) | exact isI.gc (isW.i1 (by assumption)) | exact isI.gx (isW.i2 (by assumption)) | exact isI.gc (isW.i2 (by assumption)) | exact isI.gx (isW.i3 (by assumption)) | exact isI.gc (isW.i3 (by assumption)) | exact isI.gx (isW.i4 (by assumption)) | exact isI.gc (isW.i4 (by assumption)) | exact isI.gx (isW.i5 (by assumption)) | exact isI.gc (isW.i5 (by assumption)) | exact isR.gx (by assumption) | exact isRd.gx (by assumption) | exact isSp.gx (by assumption) | exact isI.gx (isR.i (by assumption)) | exact isI.gx (isRd.i (by assumption)) | exact isI.gc (isRd.i (by assumption)) | exact isI.gx (isSp.i (by assumption)) | exact isW.gx (isR.w (by assumption)) | exact isW.gF (isR.w (by assumption)) | exact isK.gx (by assumption) | exact isK.gr (by assumption) | exact isI.gx (isK.row (by assumption) (by omega)) | exact isI.gc (isK.row (by assumption) (by omega)) | exact isSs.gx (by assumption) | exact isSs.gi (by assumption) | fail "no such object") (by rfl) ?_
      refine rj_bipush (pc := 19) dX5_writeNumber_19 (by decide +kernel) ?_
      refine r_callV1 (pc := 21) dX5_writeNumber_21 qX1_append kX5_37 vX1_append (by first | assumption | exact isI.gx (by assumption) | exact isI.gc (by assumption) | exact isW.gx (by assumption) | exact isW.gF (by assumption) | exact isW.gT (by assumption) (by omega) | exact isW.gS (by assumption) (by omega) | exact isW.gK (by assumption) (by omega) | exact isW.g1 (by assumption) | exact isW.g2 (by assumption) | exact isW.g3 (by assumption) | exact isI.gx (isW.i0 (by assumption)) | exact isI.gc (isW.i0 (by assumption)) | exact isI.gx (isW.i1 (by assumption)) | exact isI.gc (isW.i1 (by assumption)) | exact isI.gx (isW.i2 (by assumption)) | exact isI.gc (isW.i2 (by assumption)) | exact isI.gx (isW.i3 (by assumption)) | exact isI.gc (isW.i3 (by assumption)) | exact isI.gx (isW.i4 (by assumption)) | exact isI.gc (isW.i4 (by assumption)) | exact isI.gx (isW.i5 (by assumption)) | exact isI.gc (isW.i5 (by assumption)) | exact isR.gx (by assumption) | exact isRd.gx (by assumption) | exact isSp.gx (by assumption) | exact isI.gx (isR.i (by assumption)) | exact isI.gx (isRd.i (by assumption)) | exact isI.gc (isRd.i (by assumption)) | exact isI.gx (isSp.i (by assumption)) | exact isW.gx (isR.w (by assumption)) | exact isW.gF (isR.w (by assumption)) | exact isK.gx (by assumption) | exact isK.gr (by assumption) | exact isI.gx (isK.row (by assumption) (by omega)) | exact isI.gc (isK.row (by assumption) (by omega)) | exact isSs.gx (by assumption) | exact isSs.gi (by assumption) | fail "no such object") rfl rfl (Nat.le_of_ble_eq_true rfl) (cs_app _ II 45) (fun v_21 h_21 q_21 => ?_)
      obtain ⟨⟨b_21, rfl⟩, II, S_21⟩ := q_21
      have ss := ss.trans S_21
      refine r_pop (pc := 24) dX5_writeNumber_24 (by first | rfl | (cases ‹Option Nat› <;> rfl)) ?_
      refine rj_sipush (pc := 25) dX5_writeNumber_25 (by decide +kernel) ?_
      refine r_istore_n (pc := 28) dX5_writeNumber_28 (Nat.le_of_ble_eq_true rfl) ?_
      dsimp only [lsSt, List.set, mLs, mEnt]
      have e4 : tenP 4 = 10000 := rfl
      have y := L_wNum (G := G) (l := l) d (v0 := v0) (u := (-v0)) ⟨by omega, by omega⟩ 4 _ _ (Nat.le_refl _) II
      rw [e4] at y
      refine y.mono (fun v h' q => ⟨q.1, ?_, ss.trans q.2.2⟩)
      unfold nbLs
      rw [if_pos (by omega)]
      exact q.2.1
set_option maxHeartbeats 4000000 in
set_option maxRecDepth 100000 in
theorem cs_setting {G : mG} {l : Launch} (d : Nat) {h : mH} {a : Nat} {s : (Nat → Int) × Int} (I : isSs h a s) {q : Nat} {kd num vl : Int} {y : Int64} {inn nx : Option Nat} (gs : hGet h q = some (stO kd num vl y inn nx)) (hqd : ¬ dBlk a q) (r1 : rng6 num) (r2 : rng6 vl) {k : Int} : RUNM G l (d + 2) mX5_writeSetting [.ref a, .ref q, .int (J k)] h (fun v h' => v = none ∧ isSs h' a (apS s (nbLs num ++ k :: nbLs vl)) ∧ Same (dBlk a) h h') := by
  refine RUNM.of (by decide +kernel) (Nat.le_of_ble_eq_true rfl) ?_
  unfold stO at gs
  have II := I
  have ss : Same (dBlk a) h h := Same.refl
  refine r_aload_n (pc := 0) dX5_writeSetting_0 rfl (by first | rfl | exact isRefV_rf _) ?_
  refine r_aload_n (pc := 1) dX5_writeSetting_1 rfl (by first | rfl | exact isRefV_rf _) ?_
  refine r_getf (pc := 2) dX5_writeSetting_2 fX5_47 gs (by rfl) ?_
  refine r_callV1 (pc := 5) dX5_writeSetting_5 qX5_writeNumber kX5_50 vX5_writeNumber (by first | assumption | exact isI.gx (by assumption) | exact isI.gc (by assumption) | exact isW.gx (by assumption) | exact isW.gF (by assumption) | exact isW.gT (by assumption) (by omega) | exact isW.gS (by assumption) (by omega) | exact isW.gK (by assumption) (by omega) | exact isW.g1 (by assumption) | exact isW.g2 (by assumption) | exact isW.g3 (by assumption) | exact isI.gx (isW.i0 (by assumption)) | exact isI.gc (isW.i0 (by assumption)) | exact isI.gx (isW.i1 (by assumption)) | exact isI.gc (isW.i1 (by assumption)) | exact isI.gx (isW.i2 (by assumption)) | exact isI.gc (isW.i2 (by assumption)) | exact isI.gx (isW.i3 (by assumption)) | exact isI.gc (isW.i3 (by assumption)) | exact isI.gx (isW.i4 (by assumption)) | exact isI.gc (isW.i4 (by assumption)) | exact isI.gx (isW.i5 (by assumption)) | exact isI.gc (isW.i5 (by assumption)) | exact isR.gx (by assumption) | exact isRd.gx (by assumption) | exact isSp.gx (by assumption) | exact isI.gx (isR.i (by assumption)) | exact isI.gx (isRd.i (by assumption)) | exact isI.gc (isRd.i (by assumption)) | exact isI.gx (isSp.i (by assumption)) | exact isW.gx (isR.w (by assumption)) | exact isW.gF (isR.w (by assumption)) | exact isK.gx (by assumption) | exact isK.gr (by assumption) | exact isI.gx (isK.row (by assumption) (by omega)) | exact isI.gc (isK.row (by assumption) (by omega)) | exact isSs.gx (by assumption) | exact isSs.gi (by assumption) | fail "no such object") rfl rfl (Nat.le_of_ble_eq_true rfl) (cs_number _ II r1) (fun v_5 h_5 q_5 => ?_)
  obtain ⟨rfl, II, S_5⟩ := q_5
  have ss := ss.trans S_5
  have gs := S_5.at hqd gs
  refine r_aload_n (pc := 8) dX5_writeSetting_8 rfl (by first | rfl | exact isRefV_rf _) ?_
  refine r_getf (pc := 9) dX5_writeSetting_9 fX5_14 (by first | assumption | exact isI.gx (by assumption) | exact isI.gc (by assumption) | exact isW.gx (by assumption) | exact isW.gF (by assumption) | exact isW.gT (by assumption) (by omega) | exact isW.gS (by assumption) (by omega) | exact isW.gK (by assumption) (by omega) | exact isW.g1 (by assumption) | exact isW.g2 (by assumption) | exact isW.g3 (by assumption) | exact isI.gx (isW.i0 (by assumption)) | exact isI.gc (isW.i0 (by assumption)) | exact isI.gx (isW.i1 (by assumption)) | exact isI.gc (isW.i1 (by assumption)) | exact isI.gx (isW.i2 (by assumption)) | exact isI.gc (isW.i2 (by assumption)) | exact isI.gx (isW.i3 (by assumption)) | exact isI.gc (isW.i3 (by assumption)) | exact isI.gx (isW.i4 (by assumption)) | exact isI.gc (isW.i4 (by assumption)) | exact isI.gx (isW.i5 (by assumption)) | exact isI.gc (isW.i5 (by assumption)) | exact isR.gx (by assumption) | exact isRd.gx (by assumption) | exact isSp.gx (by assumption) | exact isI.gx (isR.i (by assumption)) | exact isI.gx (isRd.i (by assumption)) | exact isI.gc (isRd.i (by assumption)) | exact isI.gx (isSp.i (by assumption)) | exact isW.gx (isR.w (by assumption)) | exact isW.gF (isR.w (by assumption)) | exact isK.gx (by assumption) | exact isK.gr (by assumption) | exact isI.gx (isK.row (by assumption) (by omega)) | exact isI.gc (isK.row (by assumption) (by omega)) | exact isSs.gx (by assumption) | exact isSs.gi (by assumption) | fail "no such object") (by rfl) ?_
  refine r_iload_n (pc := 12) dX5_writeSetting_12 rfl ?_
  refine r_callV1 (pc := 13) dX5_writeSetting_13 qX1_append kX5_37 vX1_append (by first | assumption | exact isI.gx (by assumption) | exact isI.gc (by assumption) | exact isW.gx (by assumption) | exact isW.gF (by assumption) | exact isW.gT (by assumption) (by omega) | exact isW.gS (by assumption) (by omega) | exact isW.gK (by assumption) (by omega) | exact isW.g1 (by assumption) | exact isW.g2 (by assumption) | exact isW.g3 (by assumption) | exact isI.gx (isW.i0 (by assumption)) | exact isI.gc (isW.i0 (by assumption)) | exact isI.gx (isW.i1 (by assumption)) | exact isI.gc (isW.i1 (by assumption)) | exact isI.gx (isW.i2 (by assumption)) | exact isI.gc (isW.i2 (by assumption)) | exact isI.gx (isW.i3 (by assumption)) | exact isI.gc (isW.i3 (by assumption)) | exact isI.gx (isW.i4 (by assumption)) | exact isI.gc (isW.i4 (by assumption)) | exact isI.gx (isW.i5 (by assumption)) | exact isI.gc (isW.i5 (by assumption)) | exact isR.gx (by assumption) | exact isRd.gx (by assumption) | exact isSp.gx (by assumption) | exact isI.gx (isR.i (by assumption)) | exact isI.gx (isRd.i (by assumption)) | exact isI.gc (isRd.i (by assumption)) | exact isI.gx (isSp.i (by assumption)) | exact isW.gx (isR.w (by assumption)) | exact isW.gF (isR.w (by assumption)) | exact isK.gx (by assumption) | exact isK.gr (by assumption) | exact isI.gx (isK.row (by assumption) (by omega)) | exact isI.gc (isK.row (by assumption) (by omega)) | exact isSs.gx (by assumption) | exact isSs.gi (by assumption) | fail "no such object") rfl rfl (Nat.le_of_ble_eq_true rfl) (cs_app _ II k) (fun v_13 h_13 q_13 => ?_)
  obtain ⟨⟨b_13, rfl⟩, II, S_13⟩ := q_13
  have ss := ss.trans S_13
  have gs := S_13.at hqd gs
  refine r_pop (pc := 16) dX5_writeSetting_16 (by first | rfl | (cases ‹Option Nat› <;> rfl)) ?_
  refine r_aload_n (pc := 17) dX5_writeSetting_17 rfl (by first | rfl | exact isRefV_rf _) ?_
  refine r_aload_n (pc := 18) dX5_writeSetting_18 rfl (by first | rfl | exact isRefV_rf _) ?_
  refine r_getf (pc := 19) dX5_writeSetting_19 fX5_67 gs (by rfl) ?_
  refine r_callV1 (pc := 22) dX5_writeSetting_22 qX5_writeNumber kX5_50 vX5_writeNumber (by first | assumption | exact isI.gx (by assumption) | exact isI.gc (by assumption) | exact isW.gx (by assumption) | exact isW.gF (by assumption) | exact isW.gT (by assumption) (by omega) | exact isW.gS (by assumption) (by omega) | exact isW.gK (by assumption) (by omega) | exact isW.g1 (by assumption) | exact isW.g2 (by assumption) | exact isW.g3 (by assumption) | exact isI.gx (isW.i0 (by assumption)) | exact isI.gc (isW.i0 (by assumption)) | exact isI.gx (isW.i1 (by assumption)) | exact isI.gc (isW.i1 (by assumption)) | exact isI.gx (isW.i2 (by assumption)) | exact isI.gc (isW.i2 (by assumption)) | exact isI.gx (isW.i3 (by assumption)) | exact isI.gc (isW.i3 (by assumption)) | exact isI.gx (isW.i4 (by assumption)) | exact isI.gc (isW.i4 (by assumption)) | exact isI.gx (isW.i5 (by assumption)) | exact isI.gc (isW.i5 (by assumption)) | exact isR.gx (by assumption) | exact isRd.gx (by assumption) | exact isSp.gx (by assumption) | exact isI.gx (isR.i (by assumption)) | exact isI.gx (isRd.i (by assumption)) | exact isI.gc (isRd.i (by assumption)) | exact isI.gx (isSp.i (by assumption)) | exact isW.gx (isR.w (by assumption)) | exact isW.gF (isR.w (by assumption)) | exact isK.gx (by assumption) | exact isK.gr (by assumption) | exact isI.gx (isK.row (by assumption) (by omega)) | exact isI.gc (isK.row (by assumption) (by omega)) | exact isSs.gx (by assumption) | exact isSs.gi (by assumption) | fail "no such object") rfl rfl (Nat.le_of_ble_eq_true rfl) (cs_number _ II r2) (fun v_22 h_22 q_22 => ?_)
  obtain ⟨rfl, II, S_22⟩ := q_22
  have ss := ss.trans S_22
  have gs := S_22.at hqd gs
  refine r_return (pc := 25) dX5_writeSetting_25 rfl ?_
  refine ⟨rfl, ?_, ss⟩
  (try simp only [apS, apS_a] at II); (try simp only [apS, apS_a]); exact II
set_option maxHeartbeats 4000000 in
set_option maxRecDepth 100000 in
theorem cs_closer0 {G : mG} {l : Launch} (d : Nat) {h : mH} {a : Nat} {s : (Nat → Int) × Int} (I : isSs h a s) {t : Int} : RUNM G l d mX5_writeCloser [.ref a, .null, .int (J t)] h (fun v h' => v = none ∧ isSs h' a (apS s ([])) ∧ Same (dBlk a) h h') := by
  refine RUNM.of (by decide +kernel) (Nat.le_of_ble_eq_true rfl) ?_
  have II := I
  have ss : Same (dBlk a) h h := Same.refl
  refine r_aload_n (pc := 0) dX5_writeCloser_0 rfl (by first | rfl | exact isRefV_rf _) ?_
  refine r_ifnull (pc := 1) (tgt := 32) dX5_writeCloser_1 (by decide) (by first | rfl | exact isRefV_rf _) (fun c_1 => ?_) (fun a_1 c_1 => by cases c_1)
  refine r_return (pc := 32) dX5_writeCloser_32 rfl ?_
  exact ⟨rfl, I, Same.refl⟩
set_option maxHeartbeats 4000000 in
set_option maxRecDepth 100000 in
theorem cs_closer1 {G : mG} {l : Launch} (d : Nat) {h : mH} {a : Nat} {s : (Nat → Int) × Int} (I : isSs h a s) {t : Int} {q : Nat} {L : List Int} (P : ∀ h1 s1, Same (dBlk a) h h1 → isSs h1 a s1 → RUNM G l d mX5_writeSteps [.ref a, .ref q, .int (J (t + 1))] h1 (fun v h' => v = none ∧ isSs h' a (apS s1 L) ∧ Same (dBlk a) h1 h')) : RUNM G l (d + 1) mX5_writeCloser [.ref a, .ref q, .int (J t)] h (fun v h' => v = none ∧ isSs h' a (apS s (123 :: (L ++ [125]))) ∧ Same (dBlk a) h h') := by
  refine RUNM.of (by decide +kernel) (Nat.le_of_ble_eq_true rfl) ?_
  have II := I
  have ss : Same (dBlk a) h h := Same.refl
  refine r_aload_n (pc := 0) dX5_writeCloser_0 rfl (by first | rfl | exact isRefV_rf _) ?_
  refine r_ifnull (pc := 1) (tgt := 32) dX5_writeCloser_1 (by decide) (by first | rfl | exact isRefV_rf _) (fun c_1 => by cases c_1) (fun a_1 c_1 => ?_)
  refine r_aload_n (pc := 4) dX5_writeCloser_4 rfl (by first | rfl | exact isRefV_rf _) ?_
  refine r_getf (pc := 5) dX5_writeCloser_5 fX5_14 (by first | assumption | exact isI.gx (by assumption) | exact isI.gc (by assumption) | exact isW.gx (by assumption) | exact isW.gF (by assumption) | exact isW.gT (by assumption) (by omega) | exact isW.gS (by assumption) (by omega) | exact isW.gK (by assumption) (by omega) | exact isW.g1 (by assumption) | exact isW.g2 (by assumption) | exact isW.g3 (by assumption) | exact isI.gx (isW.i0 (by assumption)) | exact isI.gc (isW.i0 (by assumption)) | exact isI.gx (isW.i1 (by assumption)) | exact isI.gc (isW.i1 (by assumption)) | exact isI.gx (isW.i2 (by assumption)) | exact isI.gc (isW.i2 (by assumption)) | exact isI.gx (isW.i3 (by assumption)) | exact isI.gc (isW.i3 (by assumption)) | exact isI.gx (isW.i4 (by assumption)) | exact isI.gc (isW.i4 (by assumption)) | exact isI.gx (isW.i5 (by assumption)) | exact isI.gc (isW.i5 (by assumption)) | exact isR.gx (by assumption) | exact isRd.gx (by assumption) | exact isSp.gx (by assumption) | exact isI.gx (isR.i (by assumption)) | exact isI.gx (isRd.i (by assumption)) | exact isI.gc (isRd.i (by assumption)) | exact isI.gx (isSp.i (by assumption)) | exact isW.gx (isR.w (by assumption)) | exact isW.gF (isR.w (by assumption)) | exact isK.gx (by assumption) | exact isK.gr (by assumption) | exact isI.gx (isK.row (by assumption) (by omega)) | exact isI.gc (isK.row (by assumption) (by omega)) | exact isSs.gx (by assumption) | exact isSs.gi (by assumption) | fail "no such object") (by rfl) ?_
  refine rj_bipush (pc := 8) dX5_writeCloser_8 (by decide +kernel) ?_
  refine r_callV1 (pc := 10) dX5_writeCloser_10 qX1_append kX5_37 vX1_append (by first | assumption | exact isI.gx (by assumption) | exact isI.gc (by assumption) | exact isW.gx (by assumption) | exact isW.gF (by assumption) | exact isW.gT (by assumption) (by omega) | exact isW.gS (by assumption) (by omega) | exact isW.gK (by assumption) (by omega) | exact isW.g1 (by assumption) | exact isW.g2 (by assumption) | exact isW.g3 (by assumption) | exact isI.gx (isW.i0 (by assumption)) | exact isI.gc (isW.i0 (by assumption)) | exact isI.gx (isW.i1 (by assumption)) | exact isI.gc (isW.i1 (by assumption)) | exact isI.gx (isW.i2 (by assumption)) | exact isI.gc (isW.i2 (by assumption)) | exact isI.gx (isW.i3 (by assumption)) | exact isI.gc (isW.i3 (by assumption)) | exact isI.gx (isW.i4 (by assumption)) | exact isI.gc (isW.i4 (by assumption)) | exact isI.gx (isW.i5 (by assumption)) | exact isI.gc (isW.i5 (by assumption)) | exact isR.gx (by assumption) | exact isRd.gx (by assumption) | exact isSp.gx (by assumption) | exact isI.gx (isR.i (by assumption)) | exact isI.gx (isRd.i (by assumption)) | exact isI.gc (isRd.i (by assumption)) | exact isI.gx (isSp.i (by assumption)) | exact isW.gx (isR.w (by assumption)) | exact isW.gF (isR.w (by assumption)) | exact isK.gx (by assumption) | exact isK.gr (by assumption) | exact isI.gx (isK.row (by assumption) (by omega)) | exact isI.gc (isK.row (by assumption) (by omega)) | exact isSs.gx (by assumption) | exact isSs.gi (by assumption) | fail "no such object") rfl rfl (Nat.le_of_ble_eq_true rfl) (cs_app _ II 123) (fun v_10 h_10 q_10 => ?_)
  obtain ⟨⟨b_10, rfl⟩, II, S_10⟩ := q_10
  have ss := ss.trans S_10
  refine r_pop (pc := 13) dX5_writeCloser_13 (by first | rfl | (cases ‹Option Nat› <;> rfl)) ?_
  refine r_aload_n (pc := 14) dX5_writeCloser_14 rfl (by first | rfl | exact isRefV_rf _) ?_
  refine r_aload_n (pc := 15) dX5_writeCloser_15 rfl (by first | rfl | exact isRefV_rf _) ?_
  refine r_iload_n (pc := 16) dX5_writeCloser_16 rfl ?_
  refine rj_iconst (pc := 17) dX5_writeCloser_17 ?_
  refine rj_iadd (pc := 18) dX5_writeCloser_18 ?_
  refine r_callV2 (pc := 19) dX5_writeCloser_19 qX5_writeSteps kX5_24 vX5_writeSteps (by first | assumption | exact isI.gx (by assumption) | exact isI.gc (by assumption) | exact isW.gx (by assumption) | exact isW.gF (by assumption) | exact isW.gT (by assumption) (by omega) | exact isW.gS (by assumption) (by omega) | exact isW.gK (by assumption) (by omega) | exact isW.g1 (by assumption) | exact isW.g2 (by assumption) | exact isW.g3 (by assumption) | exact isI.gx (isW.i0 (by assumption)) | exact isI.gc (isW.i0 (by assumption)) | exact isI.gx (isW.i1 (by assumption)) | exact isI.gc (isW.i1 (by assumption)) | exact isI.gx (isW.i2 (by assumption)) | exact isI.gc (isW.i2 (by assumption)) | exact isI.gx (isW.i3 (by assumption)) | exact isI.gc (isW.i3 (by assumption)) | exact isI.gx (isW.i4 (by assumption)) | exact isI.gc (isW.i4 (by assumption)) | exact isI.gx (isW.i5 (by assumption)) | exact isI.gc (isW.i5 (by assumption)) | exact isR.gx (by assumption) | exact isRd.gx (by assumption) | exact isSp.gx (by assumption) | exact isI.gx (isR.i (by assumption)) | exact isI.gx (isRd.i (by assumption)) | exact isI.gc (isRd.i (by assumption)) | exact isI.gx (isSp.i (by assumption)) | exact isW.gx (isR.w (by assumption)) | exact isW.gF (isR.w (by assumption)) | exact isK.gx (by assumption) | exact isK.gr (by assumption) | exact isI.gx (isK.row (by assumption) (by omega)) | exact isI.gc (isK.row (by assumption) (by omega)) | exact isSs.gx (by assumption) | exact isSs.gi (by assumption) | fail "no such object") rfl rfl (Nat.le_of_ble_eq_true rfl) (P _ _ ss II) (fun v_19 h_19 q_19 => ?_)
  obtain ⟨rfl, II, S_19⟩ := q_19
  have ss := ss.trans S_19
  refine r_aload_n (pc := 22) dX5_writeCloser_22 rfl (by first | rfl | exact isRefV_rf _) ?_
  refine r_getf (pc := 23) dX5_writeCloser_23 fX5_14 (by first | assumption | exact isI.gx (by assumption) | exact isI.gc (by assumption) | exact isW.gx (by assumption) | exact isW.gF (by assumption) | exact isW.gT (by assumption) (by omega) | exact isW.gS (by assumption) (by omega) | exact isW.gK (by assumption) (by omega) | exact isW.g1 (by assumption) | exact isW.g2 (by assumption) | exact isW.g3 (by assumption) | exact isI.gx (isW.i0 (by assumption)) | exact isI.gc (isW.i0 (by assumption)) | exact isI.gx (isW.i1 (by assumption)) | exact isI.gc (isW.i1 (by assumption)) | exact isI.gx (isW.i2 (by assumption)) | exact isI.gc (isW.i2 (by assumption)) | exact isI.gx (isW.i3 (by assumption)) | exact isI.gc (isW.i3 (by assumption)) | exact isI.gx (isW.i4 (by assumption)) | exact isI.gc (isW.i4 (by assumption)) | exact isI.gx (isW.i5 (by assumption)) | exact isI.gc (isW.i5 (by assumption)) | exact isR.gx (by assumption) | exact isRd.gx (by assumption) | exact isSp.gx (by assumption) | exact isI.gx (isR.i (by assumption)) | exact isI.gx (isRd.i (by assumption)) | exact isI.gc (isRd.i (by assumption)) | exact isI.gx (isSp.i (by assumption)) | exact isW.gx (isR.w (by assumption)) | exact isW.gF (isR.w (by assumption)) | exact isK.gx (by assumption) | exact isK.gr (by assumption) | exact isI.gx (isK.row (by assumption) (by omega)) | exact isI.gc (isK.row (by assumption) (by omega)) | exact isSs.gx (by assumption) | exact isSs.gi (by assumption) | fail "no such object") (by rfl) ?_
  refine rj_bipush (pc := 26) dX5_writeCloser_26 (by decide +kernel) ?_
  refine r_callV1 (pc := 28) dX5_writeCloser_28 qX1_append kX5_37 vX1_append (by first | assumption | exact isI.gx (by assumption) | exact isI.gc (by assumption) | exact isW.gx (by assumption) | exact isW.gF (by assumption) | exact isW.gT (by assumption) (by omega) | exact isW.gS (by assumption) (by omega) | exact isW.gK (by assumption) (by omega) | exact isW.g1 (by assumption) | exact isW.g2 (by assumption) | exact isW.g3 (by assumption) | exact isI.gx (isW.i0 (by assumption)) | exact isI.gc (isW.i0 (by assumption)) | exact isI.gx (isW.i1 (by assumption)) | exact isI.gc (isW.i1 (by assumption)) | exact isI.gx (isW.i2 (by assumption)) | exact isI.gc (isW.i2 (by assumption)) | exact isI.gx (isW.i3 (by assumption)) | exact isI.gc (isW.i3 (by assumption)) | exact isI.gx (isW.i4 (by assumption)) | exact isI.gc (isW.i4 (by assumption)) | exact isI.gx (isW.i5 (by assumption)) | exact isI.gc (isW.i5 (by assumption)) | exact isR.gx (by assumption) | exact isRd.gx (by assumption) | exact isSp.gx (by assumption) | exact isI.gx (isR.i (by assumption)) | exact isI.gx (isRd.i (by assumption)) | exact isI.gc (isRd.i (by assumption)) | exact isI.gx (isSp.i (by assumption)) | exact isW.gx (isR.w (by assumption)) | exact isW.gF (isR.w (by assumption)) | exact isK.gx (by assumption) | exact isK.gr (by assumption) | exact isI.gx (isK.row (by assumption) (by omega)) | exact isI.gc (isK.row (by assumption) (by omega)) | exact isSs.gx (by assumption) | exact isSs.gi (by assumption) | fail "no such object") rfl rfl (Nat.le_of_ble_eq_true rfl) (cs_app _ II 125) (fun v_28 h_28 q_28 => ?_)
  obtain ⟨⟨b_28, rfl⟩, II, S_28⟩ := q_28
  have ss := ss.trans S_28
  refine r_pop (pc := 31) dX5_writeCloser_31 (by first | rfl | (cases ‹Option Nat› <;> rfl)) ?_
  refine r_return (pc := 32) dX5_writeCloser_32 rfl ?_
  refine ⟨rfl, ?_, ss⟩
  (try simp only [apS, apS_a] at II); (try simp only [apS, apS_a]); exact II
set_option maxHeartbeats 4000000 in
set_option maxRecDepth 100000 in
theorem cs_step9 {G : mG} {l : Launch} (d : Nat) {h : mH} {a : Nat} {s : (Nat → Int) × Int} (I : isSs h a s) {q : Nat} {t : Int} (ht : 8 < t ∧ t ≤ 100) : RUNM G l d mX5_writeStep [.ref a, .ref q, .int (J t)] h (fun v h' => v = none ∧ isSs h' a (apS s ([])) ∧ Same (dBlk a) h h') := by
  refine RUNM.of (by decide +kernel) (Nat.le_of_ble_eq_true rfl) ?_
  refine r_aload_n (pc := 0) dX5_writeStep_0 rfl (by first | rfl | exact isRefV_rf _) ?_
  refine r_ifnull (pc := 1) (tgt := 10) dX5_writeStep_1 (by decide) (by first | rfl | exact isRefV_rf _) (fun c_1 => by cases c_1) (fun a_1 c_1 => ?_)
  refine r_iload_n (pc := 4) dX5_writeStep_4 rfl ?_
  refine rj_bipush (pc := 5) dX5_writeStep_5 (by decide +kernel) ?_
  refine rj_icmp_le (pc := 7) (tgt := 11) dX5_writeStep_7 (by decide) (by first | exact b01_r | exact bz_r | omega | (constructor <;> omega) | apply_assumption | (apply atF_r; assumption) | fail "no range") (by first | exact b01_r | exact bz_r | omega | (constructor <;> omega) | apply_assumption | (apply atF_r; assumption) | fail "no range") (fun c_7 => ?_) (fun c_7 => ?_)
  · exfalso; omega
  · refine r_return (pc := 10) dX5_writeStep_10 rfl ?_
    exact ⟨rfl, I, Same.refl⟩
set_option maxHeartbeats 4000000 in
set_option maxRecDepth 100000 in
theorem cs_step {G : mG} {l : Launch} (d : Nat) {h : mH} {a : Nat} {s : (Nat → Int) × Int} (I : isSs h a s) {q : Nat} {kd num vl : Int} {y : Int64} {inn nx : Option Nat} (gs : hGet h q = some (stO kd num vl y inn nx)) (hqd : ¬ dBlk a q) {t : Int} (ht : 0 ≤ t ∧ t ≤ 8) (hkd : InR kd) {SL S1 : Nat → List Int → Prop} {L : List Int} (hK : spK kd num vl y inn SL S1 L) (PL : ∀ b L2, SL b L2 → ∀ h1 s1, Same (dBlk a) h h1 → isSs h1 a s1 → RUNM G l (d + 5) mX5_writeSteps [.ref a, .ref b, .int (J (t + 1))] h1 (fun v h' => v = none ∧ isSs h' a (apS s1 L2) ∧ Same (dBlk a) h1 h')) (P1 : ∀ b L2, S1 b L2 → ∀ h1 s1, Same (dBlk a) h h1 → isSs h1 a s1 → RUNM G l (d + 6) mX5_writeStep [.ref a, .ref b, .int (J (t + 1))] h1 (fun v h' => v = none ∧ isSs h' a (apS s1 L2) ∧ Same (dBlk a) h1 h')) : RUNM G l (d + 7) mX5_writeStep [.ref a, .ref q, .int (J t)] h (fun v h' => v = none ∧ isSs h' a (apS s (L)) ∧ Same (dBlk a) h h') := by
  refine RUNM.of (by decide +kernel) (Nat.le_of_ble_eq_true rfl) ?_
  unfold stO at gs
  have II := I
  have ss : Same (dBlk a) h h := Same.refl
  refine r_aload_n (pc := 0) dX5_writeStep_0 rfl (by first | rfl | exact isRefV_rf _) ?_
  refine r_ifnull (pc := 1) (tgt := 10) dX5_writeStep_1 (by decide) (by first | rfl | exact isRefV_rf _) (fun c_1 => by cases c_1) (fun a_1 c_1 => ?_)
  refine r_iload_n (pc := 4) dX5_writeStep_4 rfl ?_
  refine rj_bipush (pc := 5) dX5_writeStep_5 (by decide +kernel) ?_
  refine rj_icmp_le (pc := 7) (tgt := 11) dX5_writeStep_7 (by decide) (by first | exact b01_r | exact bz_r | omega | (constructor <;> omega) | apply_assumption | (apply atF_r; assumption) | fail "no range") (by first | exact b01_r | exact bz_r | omega | (constructor <;> omega) | apply_assumption | (apply atF_r; assumption) | fail "no range") (fun c_7 => ?_) (fun c_7 => ?_)
  · refine r_aload_n (pc := 11) dX5_writeStep_11 rfl (by first | rfl | exact isRefV_rf _) ?_
    refine r_getf (pc := 12) dX5_writeStep_12 fX5_14 (by first | assumption | exact isI.gx (by assumption) | exact isI.gc (by assumption) | exact isW.gx (by assumption) | exact isW.gF (by assumption) | exact isW.gT (by assumption) (by omega) | exact isW.gS (by assumption) (by omega) | exact isW.gK (by assumption) (by omega) | exact isW.g1 (by assumption) | exact isW.g2 (by assumption) | exact isW.g3 (by assumption) | exact isI.gx (isW.i0 (by assumption)) | exact isI.gc (isW.i0 (by assumption)) | exact isI.gx (isW.i1 (by assumption)) | exact isI.gc (isW.i1 (by assumption)) | exact isI.gx (isW.i2 (by assumption)) | exact isI.gc (isW.i2 (by assumption)) | exact isI.gx (isW.i3 (by assumption)) | exact isI.gc (isW.i3 (by assumption)) | exact isI.gx (isW.i4 (by assumption)) | exact isI.gc (isW.i4 (by assumption)) | exact isI.gx (isW.i5 (by assumption)) | exact isI.gc (isW.i5 (by assumption)) | exact isR.gx (by assumption) | exact isRd.gx (by assumption) | exact isSp.gx (by assumption) | exact isI.gx (isR.i (by assumption)) | exact isI.gx (isRd.i (by assumption)) | exact isI.gc (isRd.i (by assumption)) | exact isI.gx (isSp.i (by assumption)) | exact isW.gx (isR.w (by assumption)) | exact isW.gF (isR.w (by assumption)) | exact isK.gx (by assumption) | exact isK.gr (by assumption) | exact isI.gx (isK.row (by assumption) (by omega)) | exact isI.gc (isK.row (by assumption) (by omega)) | exact isSs.gx (by assumption) | exact isSs.gi (by assumption) | fail "no such object") (by rfl) ?_
    refine r_aload_n (pc := 15) dX5_writeStep_15 rfl (by first | rfl | exact isRefV_rf _) ?_
    refine r_getf (pc := 16) dX5_writeStep_16 fX5_41 gs (by rfl) ?_
    refine r_callV1 (pc := 19) dX5_writeStep_19 qX1_append kX5_37 vX1_append (by first | assumption | exact isI.gx (by assumption) | exact isI.gc (by assumption) | exact isW.gx (by assumption) | exact isW.gF (by assumption) | exact isW.gT (by assumption) (by omega) | exact isW.gS (by assumption) (by omega) | exact isW.gK (by assumption) (by omega) | exact isW.g1 (by assumption) | exact isW.g2 (by assumption) | exact isW.g3 (by assumption) | exact isI.gx (isW.i0 (by assumption)) | exact isI.gc (isW.i0 (by assumption)) | exact isI.gx (isW.i1 (by assumption)) | exact isI.gc (isW.i1 (by assumption)) | exact isI.gx (isW.i2 (by assumption)) | exact isI.gc (isW.i2 (by assumption)) | exact isI.gx (isW.i3 (by assumption)) | exact isI.gc (isW.i3 (by assumption)) | exact isI.gx (isW.i4 (by assumption)) | exact isI.gc (isW.i4 (by assumption)) | exact isI.gx (isW.i5 (by assumption)) | exact isI.gc (isW.i5 (by assumption)) | exact isR.gx (by assumption) | exact isRd.gx (by assumption) | exact isSp.gx (by assumption) | exact isI.gx (isR.i (by assumption)) | exact isI.gx (isRd.i (by assumption)) | exact isI.gc (isRd.i (by assumption)) | exact isI.gx (isSp.i (by assumption)) | exact isW.gx (isR.w (by assumption)) | exact isW.gF (isR.w (by assumption)) | exact isK.gx (by assumption) | exact isK.gr (by assumption) | exact isI.gx (isK.row (by assumption) (by omega)) | exact isI.gc (isK.row (by assumption) (by omega)) | exact isSs.gx (by assumption) | exact isSs.gi (by assumption) | fail "no such object") rfl rfl (Nat.le_of_ble_eq_true rfl) (cs_app _ II kd) (fun v_19 h_19 q_19 => ?_)
    obtain ⟨⟨b_19, rfl⟩, II, S_19⟩ := q_19
    have ss := ss.trans S_19
    have gs := S_19.at hqd gs
    refine r_pop (pc := 22) dX5_writeStep_22 (by first | rfl | (cases ‹Option Nat› <;> rfl)) ?_
    refine r_aload_n (pc := 23) dX5_writeStep_23 rfl (by first | rfl | exact isRefV_rf _) ?_
    refine r_getf (pc := 24) dX5_writeStep_24 fX5_41 gs (by rfl) ?_
    refine rj_lsw (pc := 27) dX5_writeStep_27 rfl (by first | exact b01_r | exact bz_r | omega | (constructor <;> omega) | apply_assumption | (apply atF_r; assumption) | fail "no range") (lsw_pos _ (by decide +kernel) (by decide +kernel)) (fun off_27 tgt_27 ho_27 ht_27 => ?_)
    simp only [Op.lookupswitch.offset_cons, Op.lookupswitch.offset_nil] at ho_27
    by_cases e_27_33 : (33 : Int) = kd
    · rw [if_pos e_27_33] at ho_27
      obtain rfl : tgt_27 = 102 := by omega
      obtain ⟨rn, rfl⟩ := hK.2.1 (by omega)
      refine r_aload_n (pc := 102) dX5_writeStep_102 rfl (by first | rfl | exact isRefV_rf _) ?_
      refine r_aload_n (pc := 103) dX5_writeStep_103 rfl (by first | rfl | exact isRefV_rf _) ?_
      refine r_getf (pc := 104) dX5_writeStep_104 fX5_47 gs (by rfl) ?_
      refine r_callV1 (pc := 107) dX5_writeStep_107 qX5_writeNumber kX5_50 vX5_writeNumber (by first | assumption | exact isI.gx (by assumption) | exact isI.gc (by assumption) | exact isW.gx (by assumption) | exact isW.gF (by assumption) | exact isW.gT (by assumption) (by omega) | exact isW.gS (by assumption) (by omega) | exact isW.gK (by assumption) (by omega) | exact isW.g1 (by assumption) | exact isW.g2 (by assumption) | exact isW.g3 (by assumption) | exact isI.gx (isW.i0 (by assumption)) | exact isI.gc (isW.i0 (by assumption)) | exact isI.gx (isW.i1 (by assumption)) | exact isI.gc (isW.i1 (by assumption)) | exact isI.gx (isW.i2 (by assumption)) | exact isI.gc (isW.i2 (by assumption)) | exact isI.gx (isW.i3 (by assumption)) | exact isI.gc (isW.i3 (by assumption)) | exact isI.gx (isW.i4 (by assumption)) | exact isI.gc (isW.i4 (by assumption)) | exact isI.gx (isW.i5 (by assumption)) | exact isI.gc (isW.i5 (by assumption)) | exact isR.gx (by assumption) | exact isRd.gx (by assumption) | exact isSp.gx (by assumption) | exact isI.gx (isR.i (by assumption)) | exact isI.gx (isRd.i (by assumption)) | exact isI.gc (isRd.i (by assumption)) | exact isI.gx (isSp.i (by assumption)) | exact isW.gx (isR.w (by assumption)) | exact isW.gF (isR.w (by assumption)) | exact isK.gx (by assumption) | exact isK.gr (by assumption) | exact isI.gx (isK.row (by assumption) (by omega)) | exact isI.gc (isK.row (by assumption) (by omega)) | exact isSs.gx (by assumption) | exact isSs.gi (by assumption) | fail "no such object") rfl rfl (Nat.le_of_ble_eq_true rfl) (cs_number _ II rn) (fun v_107 h_107 q_107 => ?_)
      obtain ⟨rfl, II, S_107⟩ := q_107
      have ss := ss.trans S_107
      have gs := S_107.at hqd gs
      refine r_goto (pc := 110) (tgt := 204) dX5_writeStep_110 (by decide) ?_
      refine r_return (pc := 204) dX5_writeStep_204 rfl ?_
      first | (obtain rfl := hK.2.2.2.2.2.2 (by omega) (by omega) (by omega) (by omega) (by omega) (by omega) (by omega); refine ⟨rfl, ?_, ss⟩; (try simp only [apS, apS_a] at II); (try simp only [apS, apS_a]); exact II) | (refine ⟨rfl, ?_, ss⟩; (try simp only [apS, apS_a] at II); (try simp only [apS, apS_a]); exact II) | fail "leaf"
    rw [if_neg e_27_33] at ho_27
    by_cases e_27_43 : (43 : Int) = kd
    · rw [if_pos e_27_43] at ho_27
      obtain rfl : tgt_27 = 92 := by omega
      obtain ⟨rn, rfl⟩ := hK.1 (by omega)
      refine r_aload_n (pc := 92) dX5_writeStep_92 rfl (by first | rfl | exact isRefV_rf _) ?_
      refine r_aload_n (pc := 93) dX5_writeStep_93 rfl (by first | rfl | exact isRefV_rf _) ?_
      refine rj_bipush (pc := 94) dX5_writeStep_94 (by decide +kernel) ?_
      refine r_callV2 (pc := 96) dX5_writeStep_96 qX5_writeSetting kX5_44 vX5_writeSetting (by first | assumption | exact isI.gx (by assumption) | exact isI.gc (by assumption) | exact isW.gx (by assumption) | exact isW.gF (by assumption) | exact isW.gT (by assumption) (by omega) | exact isW.gS (by assumption) (by omega) | exact isW.gK (by assumption) (by omega) | exact isW.g1 (by assumption) | exact isW.g2 (by assumption) | exact isW.g3 (by assumption) | exact isI.gx (isW.i0 (by assumption)) | exact isI.gc (isW.i0 (by assumption)) | exact isI.gx (isW.i1 (by assumption)) | exact isI.gc (isW.i1 (by assumption)) | exact isI.gx (isW.i2 (by assumption)) | exact isI.gc (isW.i2 (by assumption)) | exact isI.gx (isW.i3 (by assumption)) | exact isI.gc (isW.i3 (by assumption)) | exact isI.gx (isW.i4 (by assumption)) | exact isI.gc (isW.i4 (by assumption)) | exact isI.gx (isW.i5 (by assumption)) | exact isI.gc (isW.i5 (by assumption)) | exact isR.gx (by assumption) | exact isRd.gx (by assumption) | exact isSp.gx (by assumption) | exact isI.gx (isR.i (by assumption)) | exact isI.gx (isRd.i (by assumption)) | exact isI.gc (isRd.i (by assumption)) | exact isI.gx (isSp.i (by assumption)) | exact isW.gx (isR.w (by assumption)) | exact isW.gF (isR.w (by assumption)) | exact isK.gx (by assumption) | exact isK.gr (by assumption) | exact isI.gx (isK.row (by assumption) (by omega)) | exact isI.gc (isK.row (by assumption) (by omega)) | exact isSs.gx (by assumption) | exact isSs.gi (by assumption) | fail "no such object") rfl rfl (Nat.le_of_ble_eq_true rfl) (cs_setting _ II gs hqd rn.1 rn.2 (k := 61)) (fun v_96 h_96 q_96 => ?_)
      obtain ⟨rfl, II, S_96⟩ := q_96
      have ss := ss.trans S_96
      have gs := S_96.at hqd gs
      refine r_goto (pc := 99) (tgt := 204) dX5_writeStep_99 (by decide) ?_
      refine r_return (pc := 204) dX5_writeStep_204 rfl ?_
      first | (obtain rfl := hK.2.2.2.2.2.2 (by omega) (by omega) (by omega) (by omega) (by omega) (by omega) (by omega); refine ⟨rfl, ?_, ss⟩; (try simp only [apS, apS_a] at II); (try simp only [apS, apS_a]); exact II) | (refine ⟨rfl, ?_, ss⟩; (try simp only [apS, apS_a] at II); (try simp only [apS, apS_a]); exact II) | fail "leaf"
    rw [if_neg e_27_43] at ho_27
    by_cases e_27_63 : (63 : Int) = kd
    · rw [if_pos e_27_63] at ho_27
      obtain rfl : tgt_27 = 173 := by omega
      obtain ⟨rn, b2, L2, rfl, hL2, rfl⟩ := hK.2.2.2.2.2.1 (by omega)
      refine r_aload_n (pc := 173) dX5_writeStep_173 rfl (by first | rfl | exact isRefV_rf _) ?_
      refine r_aload_n (pc := 174) dX5_writeStep_174 rfl (by first | rfl | exact isRefV_rf _) ?_
      refine rj_bipush (pc := 175) dX5_writeStep_175 (by decide +kernel) ?_
      refine r_callV2 (pc := 177) dX5_writeStep_177 qX5_writeSetting kX5_44 vX5_writeSetting (by first | assumption | exact isI.gx (by assumption) | exact isI.gc (by assumption) | exact isW.gx (by assumption) | exact isW.gF (by assumption) | exact isW.gT (by assumption) (by omega) | exact isW.gS (by assumption) (by omega) | exact isW.gK (by assumption) (by omega) | exact isW.g1 (by assumption) | exact isW.g2 (by assumption) | exact isW.g3 (by assumption) | exact isI.gx (isW.i0 (by assumption)) | exact isI.gc (isW.i0 (by assumption)) | exact isI.gx (isW.i1 (by assumption)) | exact isI.gc (isW.i1 (by assumption)) | exact isI.gx (isW.i2 (by assumption)) | exact isI.gc (isW.i2 (by assumption)) | exact isI.gx (isW.i3 (by assumption)) | exact isI.gc (isW.i3 (by assumption)) | exact isI.gx (isW.i4 (by assumption)) | exact isI.gc (isW.i4 (by assumption)) | exact isI.gx (isW.i5 (by assumption)) | exact isI.gc (isW.i5 (by assumption)) | exact isR.gx (by assumption) | exact isRd.gx (by assumption) | exact isSp.gx (by assumption) | exact isI.gx (isR.i (by assumption)) | exact isI.gx (isRd.i (by assumption)) | exact isI.gc (isRd.i (by assumption)) | exact isI.gx (isSp.i (by assumption)) | exact isW.gx (isR.w (by assumption)) | exact isW.gF (isR.w (by assumption)) | exact isK.gx (by assumption) | exact isK.gr (by assumption) | exact isI.gx (isK.row (by assumption) (by omega)) | exact isI.gc (isK.row (by assumption) (by omega)) | exact isSs.gx (by assumption) | exact isSs.gi (by assumption) | fail "no such object") rfl rfl (Nat.le_of_ble_eq_true rfl) (cs_setting _ II gs hqd rn.1 rn.2 (k := 60)) (fun v_177 h_177 q_177 => ?_)
      obtain ⟨rfl, II, S_177⟩ := q_177
      have ss := ss.trans S_177
      have gs := S_177.at hqd gs
      refine r_aload_n (pc := 180) dX5_writeStep_180 rfl (by first | rfl | exact isRefV_rf _) ?_
      refine r_getf (pc := 181) dX5_writeStep_181 fX5_14 (by first | assumption | exact isI.gx (by assumption) | exact isI.gc (by assumption) | exact isW.gx (by assumption) | exact isW.gF (by assumption) | exact isW.gT (by assumption) (by omega) | exact isW.gS (by assumption) (by omega) | exact isW.gK (by assumption) (by omega) | exact isW.g1 (by assumption) | exact isW.g2 (by assumption) | exact isW.g3 (by assumption) | exact isI.gx (isW.i0 (by assumption)) | exact isI.gc (isW.i0 (by assumption)) | exact isI.gx (isW.i1 (by assumption)) | exact isI.gc (isW.i1 (by assumption)) | exact isI.gx (isW.i2 (by assumption)) | exact isI.gc (isW.i2 (by assumption)) | exact isI.gx (isW.i3 (by assumption)) | exact isI.gc (isW.i3 (by assumption)) | exact isI.gx (isW.i4 (by assumption)) | exact isI.gc (isW.i4 (by assumption)) | exact isI.gx (isW.i5 (by assumption)) | exact isI.gc (isW.i5 (by assumption)) | exact isR.gx (by assumption) | exact isRd.gx (by assumption) | exact isSp.gx (by assumption) | exact isI.gx (isR.i (by assumption)) | exact isI.gx (isRd.i (by assumption)) | exact isI.gc (isRd.i (by assumption)) | exact isI.gx (isSp.i (by assumption)) | exact isW.gx (isR.w (by assumption)) | exact isW.gF (isR.w (by assumption)) | exact isK.gx (by assumption) | exact isK.gr (by assumption) | exact isI.gx (isK.row (by assumption) (by omega)) | exact isI.gc (isK.row (by assumption) (by omega)) | exact isSs.gx (by assumption) | exact isSs.gi (by assumption) | fail "no such object") (by rfl) ?_
      refine rj_bipush (pc := 184) dX5_writeStep_184 (by decide +kernel) ?_
      refine r_callV1 (pc := 186) dX5_writeStep_186 qX1_append kX5_37 vX1_append (by first | assumption | exact isI.gx (by assumption) | exact isI.gc (by assumption) | exact isW.gx (by assumption) | exact isW.gF (by assumption) | exact isW.gT (by assumption) (by omega) | exact isW.gS (by assumption) (by omega) | exact isW.gK (by assumption) (by omega) | exact isW.g1 (by assumption) | exact isW.g2 (by assumption) | exact isW.g3 (by assumption) | exact isI.gx (isW.i0 (by assumption)) | exact isI.gc (isW.i0 (by assumption)) | exact isI.gx (isW.i1 (by assumption)) | exact isI.gc (isW.i1 (by assumption)) | exact isI.gx (isW.i2 (by assumption)) | exact isI.gc (isW.i2 (by assumption)) | exact isI.gx (isW.i3 (by assumption)) | exact isI.gc (isW.i3 (by assumption)) | exact isI.gx (isW.i4 (by assumption)) | exact isI.gc (isW.i4 (by assumption)) | exact isI.gx (isW.i5 (by assumption)) | exact isI.gc (isW.i5 (by assumption)) | exact isR.gx (by assumption) | exact isRd.gx (by assumption) | exact isSp.gx (by assumption) | exact isI.gx (isR.i (by assumption)) | exact isI.gx (isRd.i (by assumption)) | exact isI.gc (isRd.i (by assumption)) | exact isI.gx (isSp.i (by assumption)) | exact isW.gx (isR.w (by assumption)) | exact isW.gF (isR.w (by assumption)) | exact isK.gx (by assumption) | exact isK.gr (by assumption) | exact isI.gx (isK.row (by assumption) (by omega)) | exact isI.gc (isK.row (by assumption) (by omega)) | exact isSs.gx (by assumption) | exact isSs.gi (by assumption) | fail "no such object") rfl rfl (Nat.le_of_ble_eq_true rfl) (cs_app _ II 58) (fun v_186 h_186 q_186 => ?_)
      obtain ⟨⟨b_186, rfl⟩, II, S_186⟩ := q_186
      have ss := ss.trans S_186
      have gs := S_186.at hqd gs
      refine r_pop (pc := 189) dX5_writeStep_189 (by first | rfl | (cases ‹Option Nat› <;> rfl)) ?_
      refine r_aload_n (pc := 190) dX5_writeStep_190 rfl (by first | rfl | exact isRefV_rf _) ?_
      refine r_aload_n (pc := 191) dX5_writeStep_191 rfl (by first | rfl | exact isRefV_rf _) ?_
      refine r_getf (pc := 192) dX5_writeStep_192 fX5_61 gs (by rfl) ?_
      refine r_iload_n (pc := 195) dX5_writeStep_195 rfl ?_
      refine rj_iconst (pc := 196) dX5_writeStep_196 ?_
      refine rj_iadd (pc := 197) dX5_writeStep_197 ?_
      refine r_callV2 (pc := 198) dX5_writeStep_198 qX5_writeStep kX5_28 vX5_writeStep (by first | assumption | exact isI.gx (by assumption) | exact isI.gc (by assumption) | exact isW.gx (by assumption) | exact isW.gF (by assumption) | exact isW.gT (by assumption) (by omega) | exact isW.gS (by assumption) (by omega) | exact isW.gK (by assumption) (by omega) | exact isW.g1 (by assumption) | exact isW.g2 (by assumption) | exact isW.g3 (by assumption) | exact isI.gx (isW.i0 (by assumption)) | exact isI.gc (isW.i0 (by assumption)) | exact isI.gx (isW.i1 (by assumption)) | exact isI.gc (isW.i1 (by assumption)) | exact isI.gx (isW.i2 (by assumption)) | exact isI.gc (isW.i2 (by assumption)) | exact isI.gx (isW.i3 (by assumption)) | exact isI.gc (isW.i3 (by assumption)) | exact isI.gx (isW.i4 (by assumption)) | exact isI.gc (isW.i4 (by assumption)) | exact isI.gx (isW.i5 (by assumption)) | exact isI.gc (isW.i5 (by assumption)) | exact isR.gx (by assumption) | exact isRd.gx (by assumption) | exact isSp.gx (by assumption) | exact isI.gx (isR.i (by assumption)) | exact isI.gx (isRd.i (by assumption)) | exact isI.gc (isRd.i (by assumption)) | exact isI.gx (isSp.i (by assumption)) | exact isW.gx (isR.w (by assumption)) | exact isW.gF (isR.w (by assumption)) | exact isK.gx (by assumption) | exact isK.gr (by assumption) | exact isI.gx (isK.row (by assumption) (by omega)) | exact isI.gc (isK.row (by assumption) (by omega)) | exact isSs.gx (by assumption) | exact isSs.gi (by assumption) | fail "no such object") rfl rfl (Nat.le_of_ble_eq_true rfl) (P1 _ _ hL2 _ _ ss II) (fun v_198 h_198 q_198 => ?_)
      obtain ⟨rfl, II, S_198⟩ := q_198
      have ss := ss.trans S_198
      have gs := S_198.at hqd gs
      refine r_goto (pc := 201) (tgt := 204) dX5_writeStep_201 (by decide) ?_
      refine r_return (pc := 204) dX5_writeStep_204 rfl ?_
      first | (obtain rfl := hK.2.2.2.2.2.2 (by omega) (by omega) (by omega) (by omega) (by omega) (by omega) (by omega); refine ⟨rfl, ?_, ss⟩; (try simp only [apS, apS_a] at II); (try simp only [apS, apS_a]); exact II) | (refine ⟨rfl, ?_, ss⟩; (try simp only [apS, apS_a] at II); (try simp only [apS, apS_a]); exact II) | fail "leaf"
    rw [if_neg e_27_63] at ho_27
    by_cases e_27_97 : (97 : Int) = kd
    · rw [if_pos e_27_97] at ho_27
      obtain rfl : tgt_27 = 113 := by omega
      rcases hK.2.2.1 (by omega) with ⟨rfl, rfl⟩ | ⟨b2, L2, rfl, hL2, rfl⟩
      · refine r_aload_n (pc := 113) dX5_writeStep_113 rfl (by first | rfl | exact isRefV_rf _) ?_
        refine r_aload_n (pc := 114) dX5_writeStep_114 rfl (by first | rfl | exact isRefV_rf _) ?_
        refine r_getf (pc := 115) dX5_writeStep_115 fX5_53 gs (by rfl) ?_
        refine r_callV1 (pc := 118) dX5_writeStep_118 qX5_writeName kX5_57 vX5_writeName (by first | assumption | exact isI.gx (by assumption) | exact isI.gc (by assumption) | exact isW.gx (by assumption) | exact isW.gF (by assumption) | exact isW.gT (by assumption) (by omega) | exact isW.gS (by assumption) (by omega) | exact isW.gK (by assumption) (by omega) | exact isW.g1 (by assumption) | exact isW.g2 (by assumption) | exact isW.g3 (by assumption) | exact isI.gx (isW.i0 (by assumption)) | exact isI.gc (isW.i0 (by assumption)) | exact isI.gx (isW.i1 (by assumption)) | exact isI.gc (isW.i1 (by assumption)) | exact isI.gx (isW.i2 (by assumption)) | exact isI.gc (isW.i2 (by assumption)) | exact isI.gx (isW.i3 (by assumption)) | exact isI.gc (isW.i3 (by assumption)) | exact isI.gx (isW.i4 (by assumption)) | exact isI.gc (isW.i4 (by assumption)) | exact isI.gx (isW.i5 (by assumption)) | exact isI.gc (isW.i5 (by assumption)) | exact isR.gx (by assumption) | exact isRd.gx (by assumption) | exact isSp.gx (by assumption) | exact isI.gx (isR.i (by assumption)) | exact isI.gx (isRd.i (by assumption)) | exact isI.gc (isRd.i (by assumption)) | exact isI.gx (isSp.i (by assumption)) | exact isW.gx (isR.w (by assumption)) | exact isW.gF (isR.w (by assumption)) | exact isK.gx (by assumption) | exact isK.gr (by assumption) | exact isI.gx (isK.row (by assumption) (by omega)) | exact isI.gc (isK.row (by assumption) (by omega)) | exact isSs.gx (by assumption) | exact isSs.gi (by assumption) | fail "no such object") rfl rfl (Nat.le_of_ble_eq_true rfl) (cs_name _ II) (fun v_118 h_118 q_118 => ?_)
        obtain ⟨rfl, II, S_118⟩ := q_118
        have ss := ss.trans S_118
        have gs := S_118.at hqd gs
        refine r_aload_n (pc := 121) dX5_writeStep_121 rfl (by first | rfl | exact isRefV_rf _) ?_
        refine r_aload_n (pc := 122) dX5_writeStep_122 rfl (by first | rfl | exact isRefV_rf _) ?_
        refine r_getf (pc := 123) dX5_writeStep_123 fX5_61 gs (by rfl) ?_
        refine r_iload_n (pc := 126) dX5_writeStep_126 rfl ?_
        refine r_callV2 (pc := 127) dX5_writeStep_127 qX5_writeCloser kX5_64 vX5_writeCloser (by first | assumption | exact isI.gx (by assumption) | exact isI.gc (by assumption) | exact isW.gx (by assumption) | exact isW.gF (by assumption) | exact isW.gT (by assumption) (by omega) | exact isW.gS (by assumption) (by omega) | exact isW.gK (by assumption) (by omega) | exact isW.g1 (by assumption) | exact isW.g2 (by assumption) | exact isW.g3 (by assumption) | exact isI.gx (isW.i0 (by assumption)) | exact isI.gc (isW.i0 (by assumption)) | exact isI.gx (isW.i1 (by assumption)) | exact isI.gc (isW.i1 (by assumption)) | exact isI.gx (isW.i2 (by assumption)) | exact isI.gc (isW.i2 (by assumption)) | exact isI.gx (isW.i3 (by assumption)) | exact isI.gc (isW.i3 (by assumption)) | exact isI.gx (isW.i4 (by assumption)) | exact isI.gc (isW.i4 (by assumption)) | exact isI.gx (isW.i5 (by assumption)) | exact isI.gc (isW.i5 (by assumption)) | exact isR.gx (by assumption) | exact isRd.gx (by assumption) | exact isSp.gx (by assumption) | exact isI.gx (isR.i (by assumption)) | exact isI.gx (isRd.i (by assumption)) | exact isI.gc (isRd.i (by assumption)) | exact isI.gx (isSp.i (by assumption)) | exact isW.gx (isR.w (by assumption)) | exact isW.gF (isR.w (by assumption)) | exact isK.gx (by assumption) | exact isK.gr (by assumption) | exact isI.gx (isK.row (by assumption) (by omega)) | exact isI.gc (isK.row (by assumption) (by omega)) | exact isSs.gx (by assumption) | exact isSs.gi (by assumption) | fail "no such object") rfl rfl (Nat.le_of_ble_eq_true rfl) (cs_closer0 _ II) (fun v_127 h_127 q_127 => ?_)
        obtain ⟨rfl, II, S_127⟩ := q_127
        have ss := ss.trans S_127
        have gs := S_127.at hqd gs
        refine r_goto (pc := 130) (tgt := 204) dX5_writeStep_130 (by decide) ?_
        refine r_return (pc := 204) dX5_writeStep_204 rfl ?_
        first | (obtain rfl := hK.2.2.2.2.2.2 (by omega) (by omega) (by omega) (by omega) (by omega) (by omega) (by omega); refine ⟨rfl, ?_, ss⟩; (try simp only [apS, apS_a] at II); (try simp only [apS, apS_a]); exact II) | (refine ⟨rfl, ?_, ss⟩; (try simp only [apS, apS_a] at II); (try simp only [apS, apS_a]); exact II) | fail "leaf"
      · refine r_aload_n (pc := 113) dX5_writeStep_113 rfl (by first | rfl | exact isRefV_rf _) ?_
        refine r_aload_n (pc := 114) dX5_writeStep_114 rfl (by first | rfl | exact isRefV_rf _) ?_
        refine r_getf (pc := 115) dX5_writeStep_115 fX5_53 gs (by rfl) ?_
        refine r_callV1 (pc := 118) dX5_writeStep_118 qX5_writeName kX5_57 vX5_writeName (by first | assumption | exact isI.gx (by assumption) | exact isI.gc (by assumption) | exact isW.gx (by assumption) | exact isW.gF (by assumption) | exact isW.gT (by assumption) (by omega) | exact isW.gS (by assumption) (by omega) | exact isW.gK (by assumption) (by omega) | exact isW.g1 (by assumption) | exact isW.g2 (by assumption) | exact isW.g3 (by assumption) | exact isI.gx (isW.i0 (by assumption)) | exact isI.gc (isW.i0 (by assumption)) | exact isI.gx (isW.i1 (by assumption)) | exact isI.gc (isW.i1 (by assumption)) | exact isI.gx (isW.i2 (by assumption)) | exact isI.gc (isW.i2 (by assumption)) | exact isI.gx (isW.i3 (by assumption)) | exact isI.gc (isW.i3 (by assumption)) | exact isI.gx (isW.i4 (by assumption)) | exact isI.gc (isW.i4 (by assumption)) | exact isI.gx (isW.i5 (by assumption)) | exact isI.gc (isW.i5 (by assumption)) | exact isR.gx (by assumption) | exact isRd.gx (by assumption) | exact isSp.gx (by assumption) | exact isI.gx (isR.i (by assumption)) | exact isI.gx (isRd.i (by assumption)) | exact isI.gc (isRd.i (by assumption)) | exact isI.gx (isSp.i (by assumption)) | exact isW.gx (isR.w (by assumption)) | exact isW.gF (isR.w (by assumption)) | exact isK.gx (by assumption) | exact isK.gr (by assumption) | exact isI.gx (isK.row (by assumption) (by omega)) | exact isI.gc (isK.row (by assumption) (by omega)) | exact isSs.gx (by assumption) | exact isSs.gi (by assumption) | fail "no such object") rfl rfl (Nat.le_of_ble_eq_true rfl) (cs_name _ II) (fun v_118 h_118 q_118 => ?_)
        obtain ⟨rfl, II, S_118⟩ := q_118
        have ss := ss.trans S_118
        have gs := S_118.at hqd gs
        refine r_aload_n (pc := 121) dX5_writeStep_121 rfl (by first | rfl | exact isRefV_rf _) ?_
        refine r_aload_n (pc := 122) dX5_writeStep_122 rfl (by first | rfl | exact isRefV_rf _) ?_
        refine r_getf (pc := 123) dX5_writeStep_123 fX5_61 gs (by rfl) ?_
        refine r_iload_n (pc := 126) dX5_writeStep_126 rfl ?_
        refine r_callV2 (pc := 127) dX5_writeStep_127 qX5_writeCloser kX5_64 vX5_writeCloser (by first | assumption | exact isI.gx (by assumption) | exact isI.gc (by assumption) | exact isW.gx (by assumption) | exact isW.gF (by assumption) | exact isW.gT (by assumption) (by omega) | exact isW.gS (by assumption) (by omega) | exact isW.gK (by assumption) (by omega) | exact isW.g1 (by assumption) | exact isW.g2 (by assumption) | exact isW.g3 (by assumption) | exact isI.gx (isW.i0 (by assumption)) | exact isI.gc (isW.i0 (by assumption)) | exact isI.gx (isW.i1 (by assumption)) | exact isI.gc (isW.i1 (by assumption)) | exact isI.gx (isW.i2 (by assumption)) | exact isI.gc (isW.i2 (by assumption)) | exact isI.gx (isW.i3 (by assumption)) | exact isI.gc (isW.i3 (by assumption)) | exact isI.gx (isW.i4 (by assumption)) | exact isI.gc (isW.i4 (by assumption)) | exact isI.gx (isW.i5 (by assumption)) | exact isI.gc (isW.i5 (by assumption)) | exact isR.gx (by assumption) | exact isRd.gx (by assumption) | exact isSp.gx (by assumption) | exact isI.gx (isR.i (by assumption)) | exact isI.gx (isRd.i (by assumption)) | exact isI.gc (isRd.i (by assumption)) | exact isI.gx (isSp.i (by assumption)) | exact isW.gx (isR.w (by assumption)) | exact isW.gF (isR.w (by assumption)) | exact isK.gx (by assumption) | exact isK.gr (by assumption) | exact isI.gx (isK.row (by assumption) (by omega)) | exact isI.gc (isK.row (by assumption) (by omega)) | exact isSs.gx (by assumption) | exact isSs.gi (by assumption) | fail "no such object") rfl rfl (Nat.le_of_ble_eq_true rfl) (cs_closer1 _ II (fun h1 s1 k1 k2 => PL _ _ hL2 h1 s1 (ss.trans k1) k2)) (fun v_127 h_127 q_127 => ?_)
        obtain ⟨rfl, II, S_127⟩ := q_127
        have ss := ss.trans S_127
        have gs := S_127.at hqd gs
        refine r_goto (pc := 130) (tgt := 204) dX5_writeStep_130 (by decide) ?_
        refine r_return (pc := 204) dX5_writeStep_204 rfl ?_
        first | (obtain rfl := hK.2.2.2.2.2.2 (by omega) (by omega) (by omega) (by omega) (by omega) (by omega) (by omega); refine ⟨rfl, ?_, ss⟩; (try simp only [apS, apS_a] at II); (try simp only [apS, apS_a]); exact II) | (refine ⟨rfl, ?_, ss⟩; (try simp only [apS, apS_a] at II); (try simp only [apS, apS_a]); exact II) | fail "leaf"
    rw [if_neg e_27_97] at ho_27
    by_cases e_27_107 : (107 : Int) = kd
    · rw [if_pos e_27_107] at ho_27
      obtain rfl : tgt_27 = 102 := by omega
      obtain ⟨rn, rfl⟩ := hK.2.1 (by omega)
      refine r_aload_n (pc := 102) dX5_writeStep_102 rfl (by first | rfl | exact isRefV_rf _) ?_
      refine r_aload_n (pc := 103) dX5_writeStep_103 rfl (by first | rfl | exact isRefV_rf _) ?_
      refine r_getf (pc := 104) dX5_writeStep_104 fX5_47 gs (by rfl) ?_
      refine r_callV1 (pc := 107) dX5_writeStep_107 qX5_writeNumber kX5_50 vX5_writeNumber (by first | assumption | exact isI.gx (by assumption) | exact isI.gc (by assumption) | exact isW.gx (by assumption) | exact isW.gF (by assumption) | exact isW.gT (by assumption) (by omega) | exact isW.gS (by assumption) (by omega) | exact isW.gK (by assumption) (by omega) | exact isW.g1 (by assumption) | exact isW.g2 (by assumption) | exact isW.g3 (by assumption) | exact isI.gx (isW.i0 (by assumption)) | exact isI.gc (isW.i0 (by assumption)) | exact isI.gx (isW.i1 (by assumption)) | exact isI.gc (isW.i1 (by assumption)) | exact isI.gx (isW.i2 (by assumption)) | exact isI.gc (isW.i2 (by assumption)) | exact isI.gx (isW.i3 (by assumption)) | exact isI.gc (isW.i3 (by assumption)) | exact isI.gx (isW.i4 (by assumption)) | exact isI.gc (isW.i4 (by assumption)) | exact isI.gx (isW.i5 (by assumption)) | exact isI.gc (isW.i5 (by assumption)) | exact isR.gx (by assumption) | exact isRd.gx (by assumption) | exact isSp.gx (by assumption) | exact isI.gx (isR.i (by assumption)) | exact isI.gx (isRd.i (by assumption)) | exact isI.gc (isRd.i (by assumption)) | exact isI.gx (isSp.i (by assumption)) | exact isW.gx (isR.w (by assumption)) | exact isW.gF (isR.w (by assumption)) | exact isK.gx (by assumption) | exact isK.gr (by assumption) | exact isI.gx (isK.row (by assumption) (by omega)) | exact isI.gc (isK.row (by assumption) (by omega)) | exact isSs.gx (by assumption) | exact isSs.gi (by assumption) | fail "no such object") rfl rfl (Nat.le_of_ble_eq_true rfl) (cs_number _ II rn) (fun v_107 h_107 q_107 => ?_)
      obtain ⟨rfl, II, S_107⟩ := q_107
      have ss := ss.trans S_107
      have gs := S_107.at hqd gs
      refine r_goto (pc := 110) (tgt := 204) dX5_writeStep_110 (by decide) ?_
      refine r_return (pc := 204) dX5_writeStep_204 rfl ?_
      first | (obtain rfl := hK.2.2.2.2.2.2 (by omega) (by omega) (by omega) (by omega) (by omega) (by omega) (by omega); refine ⟨rfl, ?_, ss⟩; (try simp only [apS, apS_a] at II); (try simp only [apS, apS_a]); exact II) | (refine ⟨rfl, ?_, ss⟩; (try simp only [apS, apS_a] at II); (try simp only [apS, apS_a]); exact II) | fail "leaf"
    rw [if_neg e_27_107] at ho_27
    by_cases e_27_109 : (109 : Int) = kd
    · rw [if_pos e_27_109] at ho_27
      obtain rfl : tgt_27 = 144 := by omega
      obtain ⟨rn, rfl⟩ := hK.2.2.2.2.1 (by omega)
      refine r_aload_n (pc := 144) dX5_writeStep_144 rfl (by first | rfl | exact isRefV_rf _) ?_
      refine r_aload_n (pc := 145) dX5_writeStep_145 rfl (by first | rfl | exact isRefV_rf _) ?_
      refine r_getf (pc := 146) dX5_writeStep_146 fX5_53 gs (by rfl) ?_
      refine r_callV1 (pc := 149) dX5_writeStep_149 qX5_writeName kX5_57 vX5_writeName (by first | assumption | exact isI.gx (by assumption) | exact isI.gc (by assumption) | exact isW.gx (by assumption) | exact isW.gF (by assumption) | exact isW.gT (by assumption) (by omega) | exact isW.gS (by assumption) (by omega) | exact isW.gK (by assumption) (by omega) | exact isW.g1 (by assumption) | exact isW.g2 (by assumption) | exact isW.g3 (by assumption) | exact isI.gx (isW.i0 (by assumption)) | exact isI.gc (isW.i0 (by assumption)) | exact isI.gx (isW.i1 (by assumption)) | exact isI.gc (isW.i1 (by assumption)) | exact isI.gx (isW.i2 (by assumption)) | exact isI.gc (isW.i2 (by assumption)) | exact isI.gx (isW.i3 (by assumption)) | exact isI.gc (isW.i3 (by assumption)) | exact isI.gx (isW.i4 (by assumption)) | exact isI.gc (isW.i4 (by assumption)) | exact isI.gx (isW.i5 (by assumption)) | exact isI.gc (isW.i5 (by assumption)) | exact isR.gx (by assumption) | exact isRd.gx (by assumption) | exact isSp.gx (by assumption) | exact isI.gx (isR.i (by assumption)) | exact isI.gx (isRd.i (by assumption)) | exact isI.gc (isRd.i (by assumption)) | exact isI.gx (isSp.i (by assumption)) | exact isW.gx (isR.w (by assumption)) | exact isW.gF (isR.w (by assumption)) | exact isK.gx (by assumption) | exact isK.gr (by assumption) | exact isI.gx (isK.row (by assumption) (by omega)) | exact isI.gc (isK.row (by assumption) (by omega)) | exact isSs.gx (by assumption) | exact isSs.gi (by assumption) | fail "no such object") rfl rfl (Nat.le_of_ble_eq_true rfl) (cs_name _ II) (fun v_149 h_149 q_149 => ?_)
      obtain ⟨rfl, II, S_149⟩ := q_149
      have ss := ss.trans S_149
      have gs := S_149.at hqd gs
      refine r_aload_n (pc := 152) dX5_writeStep_152 rfl (by first | rfl | exact isRefV_rf _) ?_
      refine r_getf (pc := 153) dX5_writeStep_153 fX5_14 (by first | assumption | exact isI.gx (by assumption) | exact isI.gc (by assumption) | exact isW.gx (by assumption) | exact isW.gF (by assumption) | exact isW.gT (by assumption) (by omega) | exact isW.gS (by assumption) (by omega) | exact isW.gK (by assumption) (by omega) | exact isW.g1 (by assumption) | exact isW.g2 (by assumption) | exact isW.g3 (by assumption) | exact isI.gx (isW.i0 (by assumption)) | exact isI.gc (isW.i0 (by assumption)) | exact isI.gx (isW.i1 (by assumption)) | exact isI.gc (isW.i1 (by assumption)) | exact isI.gx (isW.i2 (by assumption)) | exact isI.gc (isW.i2 (by assumption)) | exact isI.gx (isW.i3 (by assumption)) | exact isI.gc (isW.i3 (by assumption)) | exact isI.gx (isW.i4 (by assumption)) | exact isI.gc (isW.i4 (by assumption)) | exact isI.gx (isW.i5 (by assumption)) | exact isI.gc (isW.i5 (by assumption)) | exact isR.gx (by assumption) | exact isRd.gx (by assumption) | exact isSp.gx (by assumption) | exact isI.gx (isR.i (by assumption)) | exact isI.gx (isRd.i (by assumption)) | exact isI.gc (isRd.i (by assumption)) | exact isI.gx (isSp.i (by assumption)) | exact isW.gx (isR.w (by assumption)) | exact isW.gF (isR.w (by assumption)) | exact isK.gx (by assumption) | exact isK.gr (by assumption) | exact isI.gx (isK.row (by assumption) (by omega)) | exact isI.gc (isK.row (by assumption) (by omega)) | exact isSs.gx (by assumption) | exact isSs.gi (by assumption) | fail "no such object") (by rfl) ?_
      refine rj_bipush (pc := 156) dX5_writeStep_156 (by decide +kernel) ?_
      refine r_callV1 (pc := 158) dX5_writeStep_158 qX1_append kX5_37 vX1_append (by first | assumption | exact isI.gx (by assumption) | exact isI.gc (by assumption) | exact isW.gx (by assumption) | exact isW.gF (by assumption) | exact isW.gT (by assumption) (by omega) | exact isW.gS (by assumption) (by omega) | exact isW.gK (by assumption) (by omega) | exact isW.g1 (by assumption) | exact isW.g2 (by assumption) | exact isW.g3 (by assumption) | exact isI.gx (isW.i0 (by assumption)) | exact isI.gc (isW.i0 (by assumption)) | exact isI.gx (isW.i1 (by assumption)) | exact isI.gc (isW.i1 (by assumption)) | exact isI.gx (isW.i2 (by assumption)) | exact isI.gc (isW.i2 (by assumption)) | exact isI.gx (isW.i3 (by assumption)) | exact isI.gc (isW.i3 (by assumption)) | exact isI.gx (isW.i4 (by assumption)) | exact isI.gc (isW.i4 (by assumption)) | exact isI.gx (isW.i5 (by assumption)) | exact isI.gc (isW.i5 (by assumption)) | exact isR.gx (by assumption) | exact isRd.gx (by assumption) | exact isSp.gx (by assumption) | exact isI.gx (isR.i (by assumption)) | exact isI.gx (isRd.i (by assumption)) | exact isI.gc (isRd.i (by assumption)) | exact isI.gx (isSp.i (by assumption)) | exact isW.gx (isR.w (by assumption)) | exact isW.gF (isR.w (by assumption)) | exact isK.gx (by assumption) | exact isK.gr (by assumption) | exact isI.gx (isK.row (by assumption) (by omega)) | exact isI.gc (isK.row (by assumption) (by omega)) | exact isSs.gx (by assumption) | exact isSs.gi (by assumption) | fail "no such object") rfl rfl (Nat.le_of_ble_eq_true rfl) (cs_app _ II 62) (fun v_158 h_158 q_158 => ?_)
      obtain ⟨⟨b_158, rfl⟩, II, S_158⟩ := q_158
      have ss := ss.trans S_158
      have gs := S_158.at hqd gs
      refine r_pop (pc := 161) dX5_writeStep_161 (by first | rfl | (cases ‹Option Nat› <;> rfl)) ?_
      refine r_aload_n (pc := 162) dX5_writeStep_162 rfl (by first | rfl | exact isRefV_rf _) ?_
      refine r_aload_n (pc := 163) dX5_writeStep_163 rfl (by first | rfl | exact isRefV_rf _) ?_
      refine r_getf (pc := 164) dX5_writeStep_164 fX5_47 gs (by rfl) ?_
      refine r_callV1 (pc := 167) dX5_writeStep_167 qX5_writeNumber kX5_50 vX5_writeNumber (by first | assumption | exact isI.gx (by assumption) | exact isI.gc (by assumption) | exact isW.gx (by assumption) | exact isW.gF (by assumption) | exact isW.gT (by assumption) (by omega) | exact isW.gS (by assumption) (by omega) | exact isW.gK (by assumption) (by omega) | exact isW.g1 (by assumption) | exact isW.g2 (by assumption) | exact isW.g3 (by assumption) | exact isI.gx (isW.i0 (by assumption)) | exact isI.gc (isW.i0 (by assumption)) | exact isI.gx (isW.i1 (by assumption)) | exact isI.gc (isW.i1 (by assumption)) | exact isI.gx (isW.i2 (by assumption)) | exact isI.gc (isW.i2 (by assumption)) | exact isI.gx (isW.i3 (by assumption)) | exact isI.gc (isW.i3 (by assumption)) | exact isI.gx (isW.i4 (by assumption)) | exact isI.gc (isW.i4 (by assumption)) | exact isI.gx (isW.i5 (by assumption)) | exact isI.gc (isW.i5 (by assumption)) | exact isR.gx (by assumption) | exact isRd.gx (by assumption) | exact isSp.gx (by assumption) | exact isI.gx (isR.i (by assumption)) | exact isI.gx (isRd.i (by assumption)) | exact isI.gc (isRd.i (by assumption)) | exact isI.gx (isSp.i (by assumption)) | exact isW.gx (isR.w (by assumption)) | exact isW.gF (isR.w (by assumption)) | exact isK.gx (by assumption) | exact isK.gr (by assumption) | exact isI.gx (isK.row (by assumption) (by omega)) | exact isI.gc (isK.row (by assumption) (by omega)) | exact isSs.gx (by assumption) | exact isSs.gi (by assumption) | fail "no such object") rfl rfl (Nat.le_of_ble_eq_true rfl) (cs_number _ II rn) (fun v_167 h_167 q_167 => ?_)
      obtain ⟨rfl, II, S_167⟩ := q_167
      have ss := ss.trans S_167
      have gs := S_167.at hqd gs
      refine r_goto (pc := 170) (tgt := 204) dX5_writeStep_170 (by decide) ?_
      refine r_return (pc := 204) dX5_writeStep_204 rfl ?_
      first | (obtain rfl := hK.2.2.2.2.2.2 (by omega) (by omega) (by omega) (by omega) (by omega) (by omega) (by omega); refine ⟨rfl, ?_, ss⟩; (try simp only [apS, apS_a] at II); (try simp only [apS, apS_a]); exact II) | (refine ⟨rfl, ?_, ss⟩; (try simp only [apS, apS_a] at II); (try simp only [apS, apS_a]); exact II) | fail "leaf"
    rw [if_neg e_27_109] at ho_27
    by_cases e_27_120 : (120 : Int) = kd
    · rw [if_pos e_27_120] at ho_27
      obtain rfl : tgt_27 = 133 := by omega
      obtain rfl := hK.2.2.2.1 (by omega)
      refine r_aload_n (pc := 133) dX5_writeStep_133 rfl (by first | rfl | exact isRefV_rf _) ?_
      refine r_aload_n (pc := 134) dX5_writeStep_134 rfl (by first | rfl | exact isRefV_rf _) ?_
      refine r_getf (pc := 135) dX5_writeStep_135 fX5_53 gs (by rfl) ?_
      refine r_callV1 (pc := 138) dX5_writeStep_138 qX5_writeName kX5_57 vX5_writeName (by first | assumption | exact isI.gx (by assumption) | exact isI.gc (by assumption) | exact isW.gx (by assumption) | exact isW.gF (by assumption) | exact isW.gT (by assumption) (by omega) | exact isW.gS (by assumption) (by omega) | exact isW.gK (by assumption) (by omega) | exact isW.g1 (by assumption) | exact isW.g2 (by assumption) | exact isW.g3 (by assumption) | exact isI.gx (isW.i0 (by assumption)) | exact isI.gc (isW.i0 (by assumption)) | exact isI.gx (isW.i1 (by assumption)) | exact isI.gc (isW.i1 (by assumption)) | exact isI.gx (isW.i2 (by assumption)) | exact isI.gc (isW.i2 (by assumption)) | exact isI.gx (isW.i3 (by assumption)) | exact isI.gc (isW.i3 (by assumption)) | exact isI.gx (isW.i4 (by assumption)) | exact isI.gc (isW.i4 (by assumption)) | exact isI.gx (isW.i5 (by assumption)) | exact isI.gc (isW.i5 (by assumption)) | exact isR.gx (by assumption) | exact isRd.gx (by assumption) | exact isSp.gx (by assumption) | exact isI.gx (isR.i (by assumption)) | exact isI.gx (isRd.i (by assumption)) | exact isI.gc (isRd.i (by assumption)) | exact isI.gx (isSp.i (by assumption)) | exact isW.gx (isR.w (by assumption)) | exact isW.gF (isR.w (by assumption)) | exact isK.gx (by assumption) | exact isK.gr (by assumption) | exact isI.gx (isK.row (by assumption) (by omega)) | exact isI.gc (isK.row (by assumption) (by omega)) | exact isSs.gx (by assumption) | exact isSs.gi (by assumption) | fail "no such object") rfl rfl (Nat.le_of_ble_eq_true rfl) (cs_name _ II) (fun v_138 h_138 q_138 => ?_)
      obtain ⟨rfl, II, S_138⟩ := q_138
      have ss := ss.trans S_138
      have gs := S_138.at hqd gs
      refine r_goto (pc := 141) (tgt := 204) dX5_writeStep_141 (by decide) ?_
      refine r_return (pc := 204) dX5_writeStep_204 rfl ?_
      first | (obtain rfl := hK.2.2.2.2.2.2 (by omega) (by omega) (by omega) (by omega) (by omega) (by omega) (by omega); refine ⟨rfl, ?_, ss⟩; (try simp only [apS, apS_a] at II); (try simp only [apS, apS_a]); exact II) | (refine ⟨rfl, ?_, ss⟩; (try simp only [apS, apS_a] at II); (try simp only [apS, apS_a]); exact II) | fail "leaf"
    rw [if_neg e_27_120] at ho_27
    obtain rfl : tgt_27 = 204 := by omega
    refine r_return (pc := 204) dX5_writeStep_204 rfl ?_
    first | (obtain rfl := hK.2.2.2.2.2.2 (by omega) (by omega) (by omega) (by omega) (by omega) (by omega) (by omega); refine ⟨rfl, ?_, ss⟩; (try simp only [apS, apS_a] at II); (try simp only [apS, apS_a]); exact II) | (refine ⟨rfl, ?_, ss⟩; (try simp only [apS, apS_a] at II); (try simp only [apS, apS_a]); exact II) | fail "leaf"
  · exfalso; omega
set_option maxHeartbeats 4000000 in
set_option maxRecDepth 100000 in
theorem cs_X {G : mG} {l : Launch} {S : Nat → Option mO} {h0 : mH} {a : Nat} (hS : ∀ q o, S q = some o → hGet h0 q = some o) (hSd : ∀ q, ¬ S q = none → ¬ dBlk a q) : ∀ n : Nat, (∀ (t q : Nat) (L : List Int), t ≤ 9 → wX S n false t q L → ∀ (h : mH) (s : (Nat → Int) × Int), Same (dBlk a) h0 h → isSs h a s → RUNM G l (3 * n + 5) mX5_writeStep [.ref a, .ref q, .int (J (t : Int))] h (fun v h' => v = none ∧ isSs h' a (apS s (L)) ∧ Same (dBlk a) h h')) ∧ (∀ (t q q0 : Nat) (L : List Int), t ≤ 9 → wX S n true t q L → ∀ (h : mH) (s : (Nat → Int) × Int), Same (dBlk a) h0 h → isSs h a s → RUN G l (3 * n + 6) mX5_writeSteps 2 [some (.ref a), some (.ref q0), some (.int (J (t : Int))), some (.ref q)] [] h (fun v h' => v = none ∧ isSs h' a (apS s (L)) ∧ Same (dBlk a) h h')) := by
  intro n
  induction n with
  | zero => exact ⟨fun t q L _ h => h.elim, fun t q q0 L _ h => h.elim⟩
  | succ n ih =>
    obtain ⟨ihA, ihB⟩ := ih
    have hSt : ∀ (t q : Nat) (L : List Int), t ≤ 9 → wX S n true t q L → ∀ (h : mH) (s : (Nat → Int) × Int), Same (dBlk a) h0 h → isSs h a s → RUNM G l (3 * n + 6) mX5_writeSteps [.ref a, .ref q, .int (J (t : Int))] h (fun v h' => v = none ∧ isSs h' a (apS s L) ∧ Same (dBlk a) h h') := by
      intro t q L ht hX h s hs I
      refine RUNM.of (by decide +kernel) (Nat.le_of_ble_eq_true rfl) ?_
      refine r_aload_n (pc := 0) dX5_writeSteps_0 rfl (by first | rfl | exact isRefV_rf _) ?_
      refine r_astore_n (pc := 1) dX5_writeSteps_1 (Nat.le_of_ble_eq_true rfl) (by first | rfl | exact isRefV_rf _) ?_
      dsimp only [lsSt, List.set, mLs, mEnt]
      exact ihB t q q L ht hX h s hs I
    refine ⟨fun t q L ht hX h s hs I => ?_, fun t q q0 L ht hX h s hs I => ?_⟩
    · rcases hX with ⟨h8, rfl⟩ | ⟨h8, kd, num, vl, y, inn, nx, e, hkd, hK⟩
      · exact cs_step9 _ I ⟨by omega, by omega⟩
      · have hqd := hSd q (by rw [e]; exact fun z => by cases z)
        have gs := hs.at hqd (hS q _ e)
        exact (cs_step (3 * n + 1) I gs hqd (t := (t : Int)) ⟨by omega, by omega⟩ hkd hK (fun b L2 h2 h1 s1 k1 k2 => by
          have y2 := hSt (t + 1) b L2 (by omega) h2 h1 s1 (hs.trans k1) k2
          rw [show ((t + 1 : Nat) : Int) = (t : Int) + 1 by omega] at y2
          exact y2) (fun b L2 h2 h1 s1 k1 k2 => by
          have y2 := (ihA (t + 1) b L2 (by omega) h2 h1 s1 (hs.trans k1) k2).deeper (show 3 * n + 5 ≤ 3 * n + 1 + 6 by omega)
          rw [show ((t + 1 : Nat) : Int) = (t : Int) + 1 by omega] at y2
          exact y2)).deeper (by omega)
    · obtain ⟨kd, num, vl, y, inn, nx, L1, e, hA, hB⟩ := hX
      have hqd := hSd q (by rw [e]; exact fun z => by cases z)
      have gs := hs.at hqd (hS q _ e)
      unfold stO at gs
      have II := I
      have ss : Same (dBlk a) h h := Same.refl
      rcases hB with ⟨rfl, rfl⟩ | ⟨b2, L2, rfl, hB, rfl⟩
      · skip

        refine r_aload_n (pc := 2) dX5_writeSteps_2 rfl (by first | rfl | exact isRefV_rf _) ?_
        refine r_ifnull (pc := 3) (tgt := 37) dX5_writeSteps_3 (by decide) (by first | rfl | exact isRefV_rf _) (fun c_3 => by cases c_3) (fun a_3 c_3 => ?_)
        refine r_aload_n (pc := 6) dX5_writeSteps_6 rfl (by first | rfl | exact isRefV_rf _) ?_
        refine r_aload_n (pc := 7) dX5_writeSteps_7 rfl (by first | rfl | exact isRefV_rf _) ?_
        refine r_iload_n (pc := 8) dX5_writeSteps_8 rfl ?_
        refine r_callV2 (pc := 9) dX5_writeSteps_9 qX5_writeStep kX5_28 vX5_writeStep (by first | assumption | exact isI.gx (by assumption) | exact isI.gc (by assumption) | exact isW.gx (by assumption) | exact isW.gF (by assumption) | exact isW.gT (by assumption) (by omega) | exact isW.gS (by assumption) (by omega) | exact isW.gK (by assumption) (by omega) | exact isW.g1 (by assumption) | exact isW.g2 (by assumption) | exact isW.g3 (by assumption) | exact isI.gx (isW.i0 (by assumption)) | exact isI.gc (isW.i0 (by assumption)) | exact isI.gx (isW.i1 (by assumption)) | exact isI.gc (isW.i1 (by assumption)) | exact isI.gx (isW.i2 (by assumption)) | exact isI.gc (isW.i2 (by assumption)) | exact isI.gx (isW.i3 (by assumption)) | exact isI.gc (isW.i3 (by assumption)) | exact isI.gx (isW.i4 (by assumption)) | exact isI.gc (isW.i4 (by assumption)) | exact isI.gx (isW.i5 (by assumption)) | exact isI.gc (isW.i5 (by assumption)) | exact isR.gx (by assumption) | exact isRd.gx (by assumption) | exact isSp.gx (by assumption) | exact isI.gx (isR.i (by assumption)) | exact isI.gx (isRd.i (by assumption)) | exact isI.gc (isRd.i (by assumption)) | exact isI.gx (isSp.i (by assumption)) | exact isW.gx (isR.w (by assumption)) | exact isW.gF (isR.w (by assumption)) | exact isK.gx (by assumption) | exact isK.gr (by assumption) | exact isI.gx (isK.row (by assumption) (by omega)) | exact isI.gc (isK.row (by assumption) (by omega)) | exact isSs.gx (by assumption) | exact isSs.gi (by assumption) | fail "no such object") rfl rfl (Nat.le_of_ble_eq_true rfl) ((ihA t q _ ht hA h s hs I).deeper (by omega)) (fun v_9 h_9 q_9 => ?_)
        obtain ⟨rfl, II, S_9⟩ := q_9
        have ss := ss.trans S_9
        have gs := S_9.at hqd gs
        refine r_aload_n (pc := 12) dX5_writeSteps_12 rfl (by first | rfl | exact isRefV_rf _) ?_
        refine r_getf (pc := 13) dX5_writeSteps_13 fX5_31 gs (by rfl) ?_
        refine r_ifnull (pc := 16) (tgt := 29) dX5_writeSteps_16 (by decide) (by first | rfl | exact isRefV_rf _) (fun c_16 => ?_) (fun a_16 c_16 => by cases c_16)
        refine r_aload_n (pc := 29) dX5_writeSteps_29 rfl (by first | rfl | exact isRefV_rf _) ?_
        refine r_getf (pc := 30) dX5_writeSteps_30 fX5_31 gs (by rfl) ?_
        refine r_astore_n (pc := 33) dX5_writeSteps_33 (Nat.le_of_ble_eq_true rfl) (by first | rfl | exact isRefV_rf _) ?_
        dsimp only [lsSt, List.set, mLs, mEnt]
        refine r_goto (pc := 34) (tgt := 2) dX5_writeSteps_34 (by decide) ?_
        refine r_aload_n (pc := 2) dX5_writeSteps_2 rfl (by first | rfl | exact isRefV_rf _) ?_
        refine r_ifnull (pc := 3) (tgt := 37) dX5_writeSteps_3 (by decide) (by first | rfl | exact isRefV_rf _) (fun c_3 => ?_) (fun a_3 c_3 => by cases c_3)
        refine r_return (pc := 37) dX5_writeSteps_37 rfl ?_
        exact ⟨rfl, II, ss⟩
      · skip
        refine r_aload_n (pc := 2) dX5_writeSteps_2 rfl (by first | rfl | exact isRefV_rf _) ?_
        refine r_ifnull (pc := 3) (tgt := 37) dX5_writeSteps_3 (by decide) (by first | rfl | exact isRefV_rf _) (fun c_3 => by cases c_3) (fun a_3 c_3 => ?_)
        refine r_aload_n (pc := 6) dX5_writeSteps_6 rfl (by first | rfl | exact isRefV_rf _) ?_
        refine r_aload_n (pc := 7) dX5_writeSteps_7 rfl (by first | rfl | exact isRefV_rf _) ?_
        refine r_iload_n (pc := 8) dX5_writeSteps_8 rfl ?_
        refine r_callV2 (pc := 9) dX5_writeSteps_9 qX5_writeStep kX5_28 vX5_writeStep (by first | assumption | exact isI.gx (by assumption) | exact isI.gc (by assumption) | exact isW.gx (by assumption) | exact isW.gF (by assumption) | exact isW.gT (by assumption) (by omega) | exact isW.gS (by assumption) (by omega) | exact isW.gK (by assumption) (by omega) | exact isW.g1 (by assumption) | exact isW.g2 (by assumption) | exact isW.g3 (by assumption) | exact isI.gx (isW.i0 (by assumption)) | exact isI.gc (isW.i0 (by assumption)) | exact isI.gx (isW.i1 (by assumption)) | exact isI.gc (isW.i1 (by assumption)) | exact isI.gx (isW.i2 (by assumption)) | exact isI.gc (isW.i2 (by assumption)) | exact isI.gx (isW.i3 (by assumption)) | exact isI.gc (isW.i3 (by assumption)) | exact isI.gx (isW.i4 (by assumption)) | exact isI.gc (isW.i4 (by assumption)) | exact isI.gx (isW.i5 (by assumption)) | exact isI.gc (isW.i5 (by assumption)) | exact isR.gx (by assumption) | exact isRd.gx (by assumption) | exact isSp.gx (by assumption) | exact isI.gx (isR.i (by assumption)) | exact isI.gx (isRd.i (by assumption)) | exact isI.gc (isRd.i (by assumption)) | exact isI.gx (isSp.i (by assumption)) | exact isW.gx (isR.w (by assumption)) | exact isW.gF (isR.w (by assumption)) | exact isK.gx (by assumption) | exact isK.gr (by assumption) | exact isI.gx (isK.row (by assumption) (by omega)) | exact isI.gc (isK.row (by assumption) (by omega)) | exact isSs.gx (by assumption) | exact isSs.gi (by assumption) | fail "no such object") rfl rfl (Nat.le_of_ble_eq_true rfl) ((ihA t q _ ht hA h s hs I).deeper (by omega)) (fun v_9 h_9 q_9 => ?_)
        obtain ⟨rfl, II, S_9⟩ := q_9
        have ss := ss.trans S_9
        have gs := S_9.at hqd gs
        refine r_aload_n (pc := 12) dX5_writeSteps_12 rfl (by first | rfl | exact isRefV_rf _) ?_
        refine r_getf (pc := 13) dX5_writeSteps_13 fX5_31 gs (by rfl) ?_
        refine r_ifnull (pc := 16) (tgt := 29) dX5_writeSteps_16 (by decide) (by first | rfl | exact isRefV_rf _) (fun c_16 => by cases c_16) (fun a_16 c_16 => ?_)
        refine r_aload_n (pc := 19) dX5_writeSteps_19 rfl (by first | rfl | exact isRefV_rf _) ?_
        refine r_getf (pc := 20) dX5_writeSteps_20 fX5_14 (by first | assumption | exact isI.gx (by assumption) | exact isI.gc (by assumption) | exact isW.gx (by assumption) | exact isW.gF (by assumption) | exact isW.gT (by assumption) (by omega) | exact isW.gS (by assumption) (by omega) | exact isW.gK (by assumption) (by omega) | exact isW.g1 (by assumption) | exact isW.g2 (by assumption) | exact isW.g3 (by assumption) | exact isI.gx (isW.i0 (by assumption)) | exact isI.gc (isW.i0 (by assumption)) | exact isI.gx (isW.i1 (by assumption)) | exact isI.gc (isW.i1 (by assumption)) | exact isI.gx (isW.i2 (by assumption)) | exact isI.gc (isW.i2 (by assumption)) | exact isI.gx (isW.i3 (by assumption)) | exact isI.gc (isW.i3 (by assumption)) | exact isI.gx (isW.i4 (by assumption)) | exact isI.gc (isW.i4 (by assumption)) | exact isI.gx (isW.i5 (by assumption)) | exact isI.gc (isW.i5 (by assumption)) | exact isR.gx (by assumption) | exact isRd.gx (by assumption) | exact isSp.gx (by assumption) | exact isI.gx (isR.i (by assumption)) | exact isI.gx (isRd.i (by assumption)) | exact isI.gc (isRd.i (by assumption)) | exact isI.gx (isSp.i (by assumption)) | exact isW.gx (isR.w (by assumption)) | exact isW.gF (isR.w (by assumption)) | exact isK.gx (by assumption) | exact isK.gr (by assumption) | exact isI.gx (isK.row (by assumption) (by omega)) | exact isI.gc (isK.row (by assumption) (by omega)) | exact isSs.gx (by assumption) | exact isSs.gi (by assumption) | fail "no such object") (by rfl) ?_
        refine rj_bipush (pc := 23) dX5_writeSteps_23 (by decide +kernel) ?_
        refine r_callV1 (pc := 25) dX5_writeSteps_25 qX1_append kX5_37 vX1_append (by first | assumption | exact isI.gx (by assumption) | exact isI.gc (by assumption) | exact isW.gx (by assumption) | exact isW.gF (by assumption) | exact isW.gT (by assumption) (by omega) | exact isW.gS (by assumption) (by omega) | exact isW.gK (by assumption) (by omega) | exact isW.g1 (by assumption) | exact isW.g2 (by assumption) | exact isW.g3 (by assumption) | exact isI.gx (isW.i0 (by assumption)) | exact isI.gc (isW.i0 (by assumption)) | exact isI.gx (isW.i1 (by assumption)) | exact isI.gc (isW.i1 (by assumption)) | exact isI.gx (isW.i2 (by assumption)) | exact isI.gc (isW.i2 (by assumption)) | exact isI.gx (isW.i3 (by assumption)) | exact isI.gc (isW.i3 (by assumption)) | exact isI.gx (isW.i4 (by assumption)) | exact isI.gc (isW.i4 (by assumption)) | exact isI.gx (isW.i5 (by assumption)) | exact isI.gc (isW.i5 (by assumption)) | exact isR.gx (by assumption) | exact isRd.gx (by assumption) | exact isSp.gx (by assumption) | exact isI.gx (isR.i (by assumption)) | exact isI.gx (isRd.i (by assumption)) | exact isI.gc (isRd.i (by assumption)) | exact isI.gx (isSp.i (by assumption)) | exact isW.gx (isR.w (by assumption)) | exact isW.gF (isR.w (by assumption)) | exact isK.gx (by assumption) | exact isK.gr (by assumption) | exact isI.gx (isK.row (by assumption) (by omega)) | exact isI.gc (isK.row (by assumption) (by omega)) | exact isSs.gx (by assumption) | exact isSs.gi (by assumption) | fail "no such object") rfl rfl (Nat.le_of_ble_eq_true rfl) (cs_app _ II 59) (fun v_25 h_25 q_25 => ?_)
        obtain ⟨⟨b_25, rfl⟩, II, S_25⟩ := q_25
        have ss := ss.trans S_25
        have gs := S_25.at hqd gs
        refine r_pop (pc := 28) dX5_writeSteps_28 (by first | rfl | (cases ‹Option Nat› <;> rfl)) ?_
        refine r_aload_n (pc := 29) dX5_writeSteps_29 rfl (by first | rfl | exact isRefV_rf _) ?_
        refine r_getf (pc := 30) dX5_writeSteps_30 fX5_31 gs (by rfl) ?_
        refine r_astore_n (pc := 33) dX5_writeSteps_33 (Nat.le_of_ble_eq_true rfl) (by first | rfl | exact isRefV_rf _) ?_
        dsimp only [lsSt, List.set, mLs, mEnt]
        refine r_goto (pc := 34) (tgt := 2) dX5_writeSteps_34 (by decide) ?_
        have y2 := ihB t b2 q0 L2 ht hB _ _ (hs.trans ss) II
        refine (y2.deeper (by omega)).mono (fun v h' z => ⟨z.1, ?_, ss.trans z.2.2⟩)
        have z2 := z.2.1
        (try simp only [apS, apS_a] at z2); (try simp only [apS, apS_a]); exact z2
set_option maxHeartbeats 4000000 in
set_option maxRecDepth 100000 in
theorem cs_write1 {G : mG} {l : Launch} (d : Nat) {h : mH} {a : Nat} {z : Int} {f : Nat → Int} (I0 : isSp h a z f) {q : Nat} {L : List Int} (P : ∀ h1, Same (dBlk a) h h1 → isSs h1 a (f, 0) → RUNM G l d mX5_writeSteps [.ref a, .ref q, .int (J 0)] h1 (fun v h' => v = none ∧ isSs h' a (apS (f, 0) L) ∧ Same (dBlk a) h1 h')) : RUNM G l (d + 1) mX5_write [.ref a, .ref q] h (fun v h' => v = some (.int (J (apS (f, 0) L).2)) ∧ isSs h' a (apS (f, 0) L) ∧ Same (dBlk a) h h') := by
  refine RUNM.of (by decide +kernel) (Nat.le_of_ble_eq_true rfl) ?_
  refine r_aload_n (pc := 0) dX5_write_0 rfl (by first | rfl | exact isRefV_rf _) ?_
  refine r_getf (pc := 1) dX5_write_1 fX5_14 (by first | assumption | exact isI.gx (by assumption) | exact isI.gc (by assumption) | exact isW.gx (by assumption) | exact isW.gF (by assumption) | exact isW.gT (by assumption) (by omega) | exact isW.gS (by assumption) (by omega) | exact isW.gK (by assumption) (by omega) | exact isW.g1 (by assumption) | exact isW.g2 (by assumption) | exact isW.g3 (by assumption) | exact isI.gx (isW.i0 (by assumption)) | exact isI.gc (isW.i0 (by assumption)) | exact isI.gx (isW.i1 (by assumption)) | exact isI.gc (isW.i1 (by assumption)) | exact isI.gx (isW.i2 (by assumption)) | exact isI.gc (isW.i2 (by assumption)) | exact isI.gx (isW.i3 (by assumption)) | exact isI.gc (isW.i3 (by assumption)) | exact isI.gx (isW.i4 (by assumption)) | exact isI.gc (isW.i4 (by assumption)) | exact isI.gx (isW.i5 (by assumption)) | exact isI.gc (isW.i5 (by assumption)) | exact isR.gx (by assumption) | exact isRd.gx (by assumption) | exact isSp.gx (by assumption) | exact isI.gx (isR.i (by assumption)) | exact isI.gx (isRd.i (by assumption)) | exact isI.gc (isRd.i (by assumption)) | exact isI.gx (isSp.i (by assumption)) | exact isW.gx (isR.w (by assumption)) | exact isW.gF (isR.w (by assumption)) | exact isK.gx (by assumption) | exact isK.gr (by assumption) | exact isI.gx (isK.row (by assumption) (by omega)) | exact isI.gc (isK.row (by assumption) (by omega)) | exact isSs.gx (by assumption) | exact isSs.gi (by assumption) | fail "no such object") (by rfl) ?_
  refine rj_iconst (pc := 4) dX5_write_4 ?_
  refine rc_putz (pc := 5) dX5_write_5 fX5_20 (by first | assumption | exact isW.i0 (by assumption) | exact isW.i1 (by assumption) | exact isW.i2 (by assumption) | exact isW.i3 (by assumption) | exact isW.i4 (by assumption) | exact isW.i5 (by assumption) | exact isR.i (by assumption) | exact isRd.i (by assumption) | exact isSp.i (by assumption) | fail "no such row") (fun h_5 hI_5 hS_5 => ?_)
  have I5 : isSs h_5 a (f, 0) := ⟨I0.ofI hS_5 hI_5, (show (0 : Int) ≤ 0 ∧ (0 : Int) ≤ 120 by decide)⟩
  have S5 := hS_5.mono (P' := dBlk a) (fun b hb => i_dBlk hb)
  refine r_aload_n (pc := 8) dX5_write_8 rfl (by first | rfl | exact isRefV_rf _) ?_
  refine r_aload_n (pc := 9) dX5_write_9 rfl (by first | rfl | exact isRefV_rf _) ?_
  refine rj_iconst (pc := 10) dX5_write_10 ?_
  refine r_callV2 (pc := 11) dX5_write_11 qX5_writeSteps kX5_24 vX5_writeSteps (by first | assumption | exact isI.gx (by assumption) | exact isI.gc (by assumption) | exact isW.gx (by assumption) | exact isW.gF (by assumption) | exact isW.gT (by assumption) (by omega) | exact isW.gS (by assumption) (by omega) | exact isW.gK (by assumption) (by omega) | exact isW.g1 (by assumption) | exact isW.g2 (by assumption) | exact isW.g3 (by assumption) | exact isI.gx (isW.i0 (by assumption)) | exact isI.gc (isW.i0 (by assumption)) | exact isI.gx (isW.i1 (by assumption)) | exact isI.gc (isW.i1 (by assumption)) | exact isI.gx (isW.i2 (by assumption)) | exact isI.gc (isW.i2 (by assumption)) | exact isI.gx (isW.i3 (by assumption)) | exact isI.gc (isW.i3 (by assumption)) | exact isI.gx (isW.i4 (by assumption)) | exact isI.gc (isW.i4 (by assumption)) | exact isI.gx (isW.i5 (by assumption)) | exact isI.gc (isW.i5 (by assumption)) | exact isR.gx (by assumption) | exact isRd.gx (by assumption) | exact isSp.gx (by assumption) | exact isI.gx (isR.i (by assumption)) | exact isI.gx (isRd.i (by assumption)) | exact isI.gc (isRd.i (by assumption)) | exact isI.gx (isSp.i (by assumption)) | exact isW.gx (isR.w (by assumption)) | exact isW.gF (isR.w (by assumption)) | exact isK.gx (by assumption) | exact isK.gr (by assumption) | exact isI.gx (isK.row (by assumption) (by omega)) | exact isI.gc (isK.row (by assumption) (by omega)) | exact isSs.gx (by assumption) | exact isSs.gi (by assumption) | fail "no such object") rfl rfl (Nat.le_of_ble_eq_true rfl) (P _ S5 I5) (fun v_11 h_11 q_11 => ?_)
  obtain ⟨rfl, II, S_11⟩ := q_11
  refine r_aload_n (pc := 14) dX5_write_14 rfl (by first | rfl | exact isRefV_rf _) ?_
  refine r_getf (pc := 15) dX5_write_15 fX5_14 (by first | assumption | exact isI.gx (by assumption) | exact isI.gc (by assumption) | exact isW.gx (by assumption) | exact isW.gF (by assumption) | exact isW.gT (by assumption) (by omega) | exact isW.gS (by assumption) (by omega) | exact isW.gK (by assumption) (by omega) | exact isW.g1 (by assumption) | exact isW.g2 (by assumption) | exact isW.g3 (by assumption) | exact isI.gx (isW.i0 (by assumption)) | exact isI.gc (isW.i0 (by assumption)) | exact isI.gx (isW.i1 (by assumption)) | exact isI.gc (isW.i1 (by assumption)) | exact isI.gx (isW.i2 (by assumption)) | exact isI.gc (isW.i2 (by assumption)) | exact isI.gx (isW.i3 (by assumption)) | exact isI.gc (isW.i3 (by assumption)) | exact isI.gx (isW.i4 (by assumption)) | exact isI.gc (isW.i4 (by assumption)) | exact isI.gx (isW.i5 (by assumption)) | exact isI.gc (isW.i5 (by assumption)) | exact isR.gx (by assumption) | exact isRd.gx (by assumption) | exact isSp.gx (by assumption) | exact isI.gx (isR.i (by assumption)) | exact isI.gx (isRd.i (by assumption)) | exact isI.gc (isRd.i (by assumption)) | exact isI.gx (isSp.i (by assumption)) | exact isW.gx (isR.w (by assumption)) | exact isW.gF (isR.w (by assumption)) | exact isK.gx (by assumption) | exact isK.gr (by assumption) | exact isI.gx (isK.row (by assumption) (by omega)) | exact isI.gc (isK.row (by assumption) (by omega)) | exact isSs.gx (by assumption) | exact isSs.gi (by assumption) | fail "no such object") (by rfl) ?_
  refine r_getf (pc := 18) dX5_write_18 fX5_20 (by first | assumption | exact isI.gx (by assumption) | exact isI.gc (by assumption) | exact isW.gx (by assumption) | exact isW.gF (by assumption) | exact isW.gT (by assumption) (by omega) | exact isW.gS (by assumption) (by omega) | exact isW.gK (by assumption) (by omega) | exact isW.g1 (by assumption) | exact isW.g2 (by assumption) | exact isW.g3 (by assumption) | exact isI.gx (isW.i0 (by assumption)) | exact isI.gc (isW.i0 (by assumption)) | exact isI.gx (isW.i1 (by assumption)) | exact isI.gc (isW.i1 (by assumption)) | exact isI.gx (isW.i2 (by assumption)) | exact isI.gc (isW.i2 (by assumption)) | exact isI.gx (isW.i3 (by assumption)) | exact isI.gc (isW.i3 (by assumption)) | exact isI.gx (isW.i4 (by assumption)) | exact isI.gc (isW.i4 (by assumption)) | exact isI.gx (isW.i5 (by assumption)) | exact isI.gc (isW.i5 (by assumption)) | exact isR.gx (by assumption) | exact isRd.gx (by assumption) | exact isSp.gx (by assumption) | exact isI.gx (isR.i (by assumption)) | exact isI.gx (isRd.i (by assumption)) | exact isI.gc (isRd.i (by assumption)) | exact isI.gx (isSp.i (by assumption)) | exact isW.gx (isR.w (by assumption)) | exact isW.gF (isR.w (by assumption)) | exact isK.gx (by assumption) | exact isK.gr (by assumption) | exact isI.gx (isK.row (by assumption) (by omega)) | exact isI.gc (isK.row (by assumption) (by omega)) | exact isSs.gx (by assumption) | exact isSs.gi (by assumption) | fail "no such object") (by rfl) ?_
  refine r_ireturn (pc := 21) .int dX5_write_21 rfl (by first | rfl | assumption) ?_
  exact ⟨rfl, II, S5.trans S_11⟩
set_option maxHeartbeats 4000000 in
set_option maxRecDepth 100000 in
theorem cs_steps0 {G : mG} {l : Launch} (d : Nat) {h : mH} {a : Nat} {s : (Nat → Int) × Int} (I : isSs h a s) {t : Int} : RUNM G l d mX5_writeSteps [.ref a, .null, .int (J t)] h (fun v h' => v = none ∧ isSs h' a (apS s ([])) ∧ Same (dBlk a) h h') := by
  refine RUNM.of (by decide +kernel) (Nat.le_of_ble_eq_true rfl) ?_
  refine r_aload_n (pc := 0) dX5_writeSteps_0 rfl (by first | rfl | exact isRefV_rf _) ?_
  refine r_astore_n (pc := 1) dX5_writeSteps_1 (Nat.le_of_ble_eq_true rfl) (by first | rfl | exact isRefV_rf _) ?_
  dsimp only [lsSt, List.set, mLs, mEnt]
  refine r_aload_n (pc := 2) dX5_writeSteps_2 rfl (by first | rfl | exact isRefV_rf _) ?_
  refine r_ifnull (pc := 3) (tgt := 37) dX5_writeSteps_3 (by decide) (by first | rfl | exact isRefV_rf _) (fun c_3 => ?_) (fun a_3 c_3 => by cases c_3)
  refine r_return (pc := 37) dX5_writeSteps_37 rfl ?_
  exact ⟨rfl, I, Same.refl⟩
set_option maxHeartbeats 4000000 in
set_option maxRecDepth 100000 in
theorem cs_write0 {G : mG} {l : Launch} (d : Nat) {h : mH} {a : Nat} {z : Int} {f : Nat → Int} (I0 : isSp h a z f) : RUNM G l (d + 1) mX5_write [.ref a, .null] h (fun v h' => v = some (.int (J 0)) ∧ isSs h' a (f, 0) ∧ Same (dBlk a) h h') := by
  refine RUNM.of (by decide +kernel) (Nat.le_of_ble_eq_true rfl) ?_
  refine r_aload_n (pc := 0) dX5_write_0 rfl (by first | rfl | exact isRefV_rf _) ?_
  refine r_getf (pc := 1) dX5_write_1 fX5_14 (by first | assumption | exact isI.gx (by assumption) | exact isI.gc (by assumption) | exact isW.gx (by assumption) | exact isW.gF (by assumption) | exact isW.gT (by assumption) (by omega) | exact isW.gS (by assumption) (by omega) | exact isW.gK (by assumption) (by omega) | exact isW.g1 (by assumption) | exact isW.g2 (by assumption) | exact isW.g3 (by assumption) | exact isI.gx (isW.i0 (by assumption)) | exact isI.gc (isW.i0 (by assumption)) | exact isI.gx (isW.i1 (by assumption)) | exact isI.gc (isW.i1 (by assumption)) | exact isI.gx (isW.i2 (by assumption)) | exact isI.gc (isW.i2 (by assumption)) | exact isI.gx (isW.i3 (by assumption)) | exact isI.gc (isW.i3 (by assumption)) | exact isI.gx (isW.i4 (by assumption)) | exact isI.gc (isW.i4 (by assumption)) | exact isI.gx (isW.i5 (by assumption)) | exact isI.gc (isW.i5 (by assumption)) | exact isR.gx (by assumption) | exact isRd.gx (by assumption) | exact isSp.gx (by assumption) | exact isI.gx (isR.i (by assumption)) | exact isI.gx (isRd.i (by assumption)) | exact isI.gc (isRd.i (by assumption)) | exact isI.gx (isSp.i (by assumption)) | exact isW.gx (isR.w (by assumption)) | exact isW.gF (isR.w (by assumption)) | exact isK.gx (by assumption) | exact isK.gr (by assumption) | exact isI.gx (isK.row (by assumption) (by omega)) | exact isI.gc (isK.row (by assumption) (by omega)) | exact isSs.gx (by assumption) | exact isSs.gi (by assumption) | fail "no such object") (by rfl) ?_
  refine rj_iconst (pc := 4) dX5_write_4 ?_
  refine rc_putz (pc := 5) dX5_write_5 fX5_20 (by first | assumption | exact isW.i0 (by assumption) | exact isW.i1 (by assumption) | exact isW.i2 (by assumption) | exact isW.i3 (by assumption) | exact isW.i4 (by assumption) | exact isW.i5 (by assumption) | exact isR.i (by assumption) | exact isRd.i (by assumption) | exact isSp.i (by assumption) | fail "no such row") (fun h_5 hI_5 hS_5 => ?_)
  have I5 : isSs h_5 a (f, 0) := ⟨I0.ofI hS_5 hI_5, (show (0 : Int) ≤ 0 ∧ (0 : Int) ≤ 120 by decide)⟩
  have S5 := hS_5.mono (P' := dBlk a) (fun b hb => i_dBlk hb)
  refine r_aload_n (pc := 8) dX5_write_8 rfl (by first | rfl | exact isRefV_rf _) ?_
  refine r_aload_n (pc := 9) dX5_write_9 rfl (by first | rfl | exact isRefV_rf _) ?_
  refine rj_iconst (pc := 10) dX5_write_10 ?_
  refine r_callV2 (pc := 11) dX5_write_11 qX5_writeSteps kX5_24 vX5_writeSteps (by first | assumption | exact isI.gx (by assumption) | exact isI.gc (by assumption) | exact isW.gx (by assumption) | exact isW.gF (by assumption) | exact isW.gT (by assumption) (by omega) | exact isW.gS (by assumption) (by omega) | exact isW.gK (by assumption) (by omega) | exact isW.g1 (by assumption) | exact isW.g2 (by assumption) | exact isW.g3 (by assumption) | exact isI.gx (isW.i0 (by assumption)) | exact isI.gc (isW.i0 (by assumption)) | exact isI.gx (isW.i1 (by assumption)) | exact isI.gc (isW.i1 (by assumption)) | exact isI.gx (isW.i2 (by assumption)) | exact isI.gc (isW.i2 (by assumption)) | exact isI.gx (isW.i3 (by assumption)) | exact isI.gc (isW.i3 (by assumption)) | exact isI.gx (isW.i4 (by assumption)) | exact isI.gc (isW.i4 (by assumption)) | exact isI.gx (isW.i5 (by assumption)) | exact isI.gc (isW.i5 (by assumption)) | exact isR.gx (by assumption) | exact isRd.gx (by assumption) | exact isSp.gx (by assumption) | exact isI.gx (isR.i (by assumption)) | exact isI.gx (isRd.i (by assumption)) | exact isI.gc (isRd.i (by assumption)) | exact isI.gx (isSp.i (by assumption)) | exact isW.gx (isR.w (by assumption)) | exact isW.gF (isR.w (by assumption)) | exact isK.gx (by assumption) | exact isK.gr (by assumption) | exact isI.gx (isK.row (by assumption) (by omega)) | exact isI.gc (isK.row (by assumption) (by omega)) | exact isSs.gx (by assumption) | exact isSs.gi (by assumption) | fail "no such object") rfl rfl (Nat.le_of_ble_eq_true rfl) (cs_steps0 _ I5) (fun v_11 h_11 q_11 => ?_)
  obtain ⟨rfl, II, S_11⟩ := q_11
  refine r_aload_n (pc := 14) dX5_write_14 rfl (by first | rfl | exact isRefV_rf _) ?_
  refine r_getf (pc := 15) dX5_write_15 fX5_14 (by first | assumption | exact isI.gx (by assumption) | exact isI.gc (by assumption) | exact isW.gx (by assumption) | exact isW.gF (by assumption) | exact isW.gT (by assumption) (by omega) | exact isW.gS (by assumption) (by omega) | exact isW.gK (by assumption) (by omega) | exact isW.g1 (by assumption) | exact isW.g2 (by assumption) | exact isW.g3 (by assumption) | exact isI.gx (isW.i0 (by assumption)) | exact isI.gc (isW.i0 (by assumption)) | exact isI.gx (isW.i1 (by assumption)) | exact isI.gc (isW.i1 (by assumption)) | exact isI.gx (isW.i2 (by assumption)) | exact isI.gc (isW.i2 (by assumption)) | exact isI.gx (isW.i3 (by assumption)) | exact isI.gc (isW.i3 (by assumption)) | exact isI.gx (isW.i4 (by assumption)) | exact isI.gc (isW.i4 (by assumption)) | exact isI.gx (isW.i5 (by assumption)) | exact isI.gc (isW.i5 (by assumption)) | exact isR.gx (by assumption) | exact isRd.gx (by assumption) | exact isSp.gx (by assumption) | exact isI.gx (isR.i (by assumption)) | exact isI.gx (isRd.i (by assumption)) | exact isI.gc (isRd.i (by assumption)) | exact isI.gx (isSp.i (by assumption)) | exact isW.gx (isR.w (by assumption)) | exact isW.gF (isR.w (by assumption)) | exact isK.gx (by assumption) | exact isK.gr (by assumption) | exact isI.gx (isK.row (by assumption) (by omega)) | exact isI.gc (isK.row (by assumption) (by omega)) | exact isSs.gx (by assumption) | exact isSs.gi (by assumption) | fail "no such object") (by rfl) ?_
  refine r_getf (pc := 18) dX5_write_18 fX5_20 (by first | assumption | exact isI.gx (by assumption) | exact isI.gc (by assumption) | exact isW.gx (by assumption) | exact isW.gF (by assumption) | exact isW.gT (by assumption) (by omega) | exact isW.gS (by assumption) (by omega) | exact isW.gK (by assumption) (by omega) | exact isW.g1 (by assumption) | exact isW.g2 (by assumption) | exact isW.g3 (by assumption) | exact isI.gx (isW.i0 (by assumption)) | exact isI.gc (isW.i0 (by assumption)) | exact isI.gx (isW.i1 (by assumption)) | exact isI.gc (isW.i1 (by assumption)) | exact isI.gx (isW.i2 (by assumption)) | exact isI.gc (isW.i2 (by assumption)) | exact isI.gx (isW.i3 (by assumption)) | exact isI.gc (isW.i3 (by assumption)) | exact isI.gx (isW.i4 (by assumption)) | exact isI.gc (isW.i4 (by assumption)) | exact isI.gx (isW.i5 (by assumption)) | exact isI.gc (isW.i5 (by assumption)) | exact isR.gx (by assumption) | exact isRd.gx (by assumption) | exact isSp.gx (by assumption) | exact isI.gx (isR.i (by assumption)) | exact isI.gx (isRd.i (by assumption)) | exact isI.gc (isRd.i (by assumption)) | exact isI.gx (isSp.i (by assumption)) | exact isW.gx (isR.w (by assumption)) | exact isW.gF (isR.w (by assumption)) | exact isK.gx (by assumption) | exact isK.gr (by assumption) | exact isI.gx (isK.row (by assumption) (by omega)) | exact isI.gc (isK.row (by assumption) (by omega)) | exact isSs.gx (by assumption) | exact isSs.gi (by assumption) | fail "no such object") (by rfl) ?_
  refine r_ireturn (pc := 21) .int dX5_write_21 rfl (by first | rfl | assumption) ?_
  exact ⟨rfl, II, S5.trans S_11⟩
end mg_f5
section mg_g0
/-! ===== a keeper and a model that stand for one state ===== -/
/-- the rows of both -/
def roR (zr : Nat → Int) (fr : Nat → Nat → Int) (rwd rw : Nat → Int) : Prop := ((∀ q, InR (zr q) ∧ zr q ≤ 40) ∧ ∀ k q, InR (fr k q)) ∧ ∀ a : Nat, a < 4 → (zr a = -11 ∧ rwd a = -1) ∨ (0 ≤ zr a ∧ zr a = rwd a ∧ ∀ k : Nat, (k : Int) < zr a → fr a k = rw (40 * a + k))
/-- the sheets of both -/
def paR (sg : Bool) (zs : Int) (fs : Nat → Int) (f18 : Int) (pap : Nat → Int) : Prop := (0 ≤ zs ∧ zs ≤ 120) ∧ (sg = true → zs = f18 ∧ ∀ q : Nat, (q : Int) < zs → fs q = pap q)
/-- steps that were read lie behind both -/
def stR (y : Nat) (h : mH) (S : Nat → Option mO) : Prop := ∀ a o, S a = some o → hGet h a = some o ∧ y + 10 ≤ a ∧ a < h.2.1
def keR (y : Nat) (h : mH) (S : Nat → Option mO) (kp : Option Nat) (f4 : Int) (kpm pool : Nat → Int) : Prop := (kp = none ∧ f4 = 0) ∨ ∃ (w : Nat) (c : Nat → Int) (C : Nat → Nat → Int) (nm : Nat → Int64) (g : Nat → Option Nat), (kp = some w ∧ f4 = 1) ∧ (y + 10 ≤ w ∧ w + 177 ≤ h.2.1) ∧ (∀ a, wBlk w a → S a = none) ∧ isW h w c C nm g ∧ CTR kpm pool S c C nm g
def tkR (y : Nat) (h : mH) (S : Nat → Option mO) (kp tk : Option Nat) : Prop := tk = none ∨ ∃ (r : Nat) (b : Int) (f c : Nat → Int) (C : Nat → Nat → Int) (nm : Nat → Int64) (g : Nat → Option Nat), tk = some r ∧ (y + 10 ≤ r ∧ r + 180 ≤ h.2.1) ∧ (∀ a, rBlk r a → S a = none) ∧ (∀ w, kp = some w → w + 177 ≤ r ∨ r + 180 ≤ w) ∧ isR h r b 0 f c C nm g ∧ ((∀ q, InR (c q)) ∧ ∀ k q, InR (C k q))
/-- the class stands for a state -/
def CH (sg : Bool) (x y : Nat) (f4 : Int) (m kpm pool : Nat → Int) (zt : Int) (ft : Nat → Int) (f18 : Int) (pap rwd rw : Nat → Int) (h : mH) : Prop :=
  ∃ (S : Nat → Option mO) (kp tk : Option Nat) (zr : Nat → Int) (fr : Nat → Nat → Int) (p e o zs : Int) (fs : Nat → Int) (b : Int) (fa c : Nat → Int) (C : Nat → Nat → Int) (nm : Nat → Int64) (g : Nat → Option Nat),
    isK h x kp tk zr fr p e o zt ft zs fs b 0 fa c C nm g ∧ (CTR m pool S c C nm g ∧ stR y h S ∧ keR y h S kp f4 kpm pool ∧ tkR y h S kp tk) ∧ roR zr fr rwd rw ∧ paR sg zs fs f18 pap ∧ (x + 196 ≤ y ∧ y + 10 ≤ h.2.1)
/-- the model stands for it -/
def MH (y : Nat) (f4 : Int) (m kpm pool : Nat → Int) (zt : Int) (ft : Nat → Int) (f18 : Int) (pap rwd rw : Nat → Int) (h : mH) : Prop :=
  ∃ (f14 f16 : Int) (was pln : Nat → Int), InR f14 ∧ isMs h y f4 zt f14 f16 f18 m kpm was pool ft pln pap rwd rw
/-- a state is in order, behind n calls -/
def SO (n : Nat) (f4 : Int) (m kpm pool : Nat → Int) (zt : Int) (ft : Nat → Int) (f18 : Int) (rwd rw : Nat → Int) : Prop :=
  (All m pool (12000 * n) (100 * n) ∧ poolOk pool) ∧ (((f4 = 0 ∧ mOk kpm) ∨ f4 = 1) ∧ (f4 = 1 → All kpm pool (12000 * n) (100 * n) ∧ kpm 8 ≤ m 8)) ∧ ((0 ≤ zt ∧ zt ≤ 120) ∧ bytesOk ft ∧ ∀ j : Nat, (j : Int) < zt → 1 ≤ ft j) ∧ (0 ≤ f18 ∧ f18 ≤ 120) ∧ ((∀ q, InR (rwd q) ∧ rwd q ≤ 40) ∧ ∀ q, InR (rw q))
/-- a heap's sizes behind n calls -/
def SZ (y n : Nat) (h : mH) : Prop := h.2.1 ≤ y + 10 + 400 * n ∧ h.2.2.1 ≤ 100000 + 6000 * n
def RI (sg : Bool) (x y n : Nat) (h : mH) : Prop := ∃ (f4 : Int) (m kpm pool : Nat → Int) (zt : Int) (ft : Nat → Int) (f18 : Int) (pap rwd rw : Nat → Int), CH sg x y f4 m kpm pool zt ft f18 pap rwd rw h ∧ MH y f4 m kpm pool zt ft f18 pap rwd rw h ∧ SO n f4 m kpm pool zt ft f18 rwd rw ∧ SZ y n h
section G0
variable {sg : Bool} {G : mG} {l : Launch} {D : Nat} {x y n : Nat} {h h1 h' : mH} {f4 : Int} {m kpm pool : Nat → Int} {zt : Int} {ft : Nat → Int} {f18 : Int} {pap rwd rw : Nat → Int}
theorem isMs.kp {f14 f16 : Int} {was pln : Nat → Int} (k : isMs h y f4 zt f14 f16 f18 m kpm was pool ft pln pap rwd rw) (e : h'.1 = h.1) (s : ∀ b, mBlk y b → hGet h' b = hGet h b) : isMs h' y f4 zt f14 f16 f18 m kpm was pool ft pln pap rwd rw := by
  obtain ⟨f8, f9, f10, f11, f12, f13, s0, k0, k1, k2, k3, k4, k5, k6, k7, k8, k9, ka, kb⟩ := k
  refine ⟨f8, f9, f10, f11, f12, f13, s0, k0, by rw [e]; exact k1, ?_, ?_, ?_, ?_, ?_, ?_, ?_, ?_, ?_, ?_⟩
  · exact (s _ (by unfold mBlk; omega)).trans k2
  · exact (s _ (by unfold mBlk mAd; omega)).trans k3
  · exact (s _ (by unfold mBlk mAd; omega)).trans k4
  · exact (s _ (by unfold mBlk mAd; omega)).trans k5
  · exact (s _ (by unfold mBlk mAd; omega)).trans k6
  · exact (s _ (by unfold mBlk mAd; omega)).trans k7
  · exact (s _ (by unfold mBlk mAd; omega)).trans k8
  · exact (s _ (by unfold mBlk mAd; omega)).trans k9
  · exact (s _ (by unfold mBlk mAd; omega)).trans ka
  · exact (s _ (by unfold mBlk mAd; omega)).trans kb
theorem MH.kp (k : MH y f4 m kpm pool zt ft f18 pap rwd rw h) (e : h'.1 = h.1) (s : ∀ b, mBlk y b → hGet h' b = hGet h b) : MH y f4 m kpm pool zt ft f18 pap rwd rw h' := by
  obtain ⟨a, b, c, d, e1, e2⟩ := k
  exact ⟨a, b, c, d, e1, e2.kp e s⟩
/-- older cells that lie outside of a block are as they were -/
def Old (P : Nat → Prop) (h h' : mH) : Prop := h'.1 = h.1 ∧ h.2.1 ≤ h'.2.1 ∧ ∀ b, b < h.2.1 → ¬ P b → hGet h' b = hGet h b
theorem Old.of {P : Nat → Prop} (s : Same P h h') : Old P h h' := ⟨s.1, by have := s.2.1; omega, fun b _ hb => s.2.2.2 b hb⟩
theorem Old.mono {P P' : Nat → Prop} (s : Old P h h') (f : ∀ b, P b → P' b) : Old P' h h' := ⟨s.1, s.2.1, fun b hb hn => s.2.2 b hb (fun q => hn (f b q))⟩
theorem Old.tr {P : Nat → Prop} {h2 : mH} (s : Old P h h1) (t : Old P h1 h2) : Old P h h2 := ⟨t.1.trans s.1, Nat.le_trans s.2.1 t.2.1, fun b hb hn => (t.2.2 b (Nat.lt_of_lt_of_le hb s.2.1) hn).trans (s.2.2 b hb hn)⟩
theorem Old.rf {P : Nat → Prop} : Old P h h := ⟨rfl, Nat.le_refl _, fun _ _ _ => rfl⟩
theorem isK.kp {kp tk : Option Nat} {zr : Nat → Int} {fr : Nat → Nat → Int} {p e o zs : Int} {fs : Nat → Int} {b za : Int} {fa c : Nat → Int} {C : Nat → Nat → Int} {nm : Nat → Int64} {g : Nat → Option Nat} (k : isK h x kp tk zr fr p e o zt ft zs fs b za fa c C nm g) (e1 : h'.1 = h.1) (s : ∀ q, kBlk x q → hGet h' q = hGet h q) : isK h' x kp tk zr fr p e o zt ft zs fs b za fa c C nm g :=
  k.ofX e1 ((s x (by unfold kBlk; omega)).trans k.gx) (fun q hq _ => s q hq)
theorem stR.kp {S : Nat → Option mO} {P : Nat → Prop} (k : stR y h S) (o : Old P h h') (hP : ∀ b, P b → b < y + 10 ∨ S b = none) : stR y h' S := by
  intro a ob ha
  obtain ⟨k1, k2, k3⟩ := k a ob ha
  have := o.2.1
  refine ⟨(o.2.2 a k3 (fun q => ?_)).trans k1, k2, by omega⟩
  rcases hP a q with z | z
  · omega
  · rw [ha] at z; cases z
theorem keR.kp {S : Nat → Option mO} {kp : Option Nat} {P : Nat → Prop} (k : keR y h S kp f4 kpm pool) (o : Old P h h') (hP : ∀ b w, kp = some w → wBlk w b → ¬ P b) : keR y h' S kp f4 kpm pool := by
  rcases k with k | ⟨w, c, C, nm, g, ⟨k1, k2⟩, ⟨k3, k4⟩, k5, k6, k7⟩
  · exact Or.inl k
  · have := o.2.1
    exact Or.inr ⟨w, c, C, nm, g, ⟨k1, k2⟩, ⟨k3, by omega⟩, k5, k6.keep2 o.1 (fun b hb => o.2.2 b (by unfold wBlk at hb; omega) (hP b w k1 hb)), k7⟩
theorem tkR.kp {S : Nat → Option mO} {kp tk : Option Nat} {P : Nat → Prop} (k : tkR y h S kp tk) (o : Old P h h') (hP : ∀ b r, tk = some r → rBlk r b → ¬ P b) : tkR y h' S kp tk := by
  rcases k with k | ⟨r, b, f, c, C, nm, g, k1, ⟨k3, k4⟩, k5, k6, k7, k8⟩
  · exact Or.inl k
  · have := o.2.1
    exact Or.inr ⟨r, b, f, c, C, nm, g, k1, ⟨k3, by omega⟩, k5, k6, k7.keep2 o.1 (fun q hq => o.2.2 q (by unfold rBlk at hq; omega) (hP q r k1 hq)), k8⟩
theorem keR.lo {S : Nat → Option mO} {kp : Option Nat} (k : keR y h S kp f4 kpm pool) {w : Nat} (e : kp = some w) : y + 10 ≤ w := by
  rcases k with ⟨k, -⟩ | ⟨w', c, C, nm, g, ⟨k1, k2⟩, ⟨k3, k4⟩, k5, k6, k7⟩
  · rw [k] at e; cases e
  · rw [k1] at e; cases e; exact k3
theorem tkR.lo {S : Nat → Option mO} {kp tk : Option Nat} (k : tkR y h S kp tk) {r : Nat} (e : tk = some r) : y + 10 ≤ r := by
  rcases k with k | ⟨r', b, f, c, C, nm, g, k1, ⟨k3, k4⟩, k5, k6, k7, k8⟩
  · rw [k] at e; cases e
  · rw [k1] at e; cases e; exact k3
/-- the model's own changes leave the class alone -/
theorem CH.kp (k : CH sg x y f4 m kpm pool zt ft f18 pap rwd rw h) (o : Old (mBlk y) h h') : CH sg x y f4 m kpm pool zt ft f18 pap rwd rw h' := by
  obtain ⟨S, kp, tk, zr, fr, p, e, o', zs, fs, b, fa, c, C, nm, g, k1, ⟨k2, k3, k4, k5⟩, k6, k7, k8⟩ := k
  have := o.2.1
  exact ⟨S, kp, tk, zr, fr, p, e, o', zs, fs, b, fa, c, C, nm, g, k1.kp o.1 (fun q hq => o.2.2 q (by unfold kBlk at hq; omega) (by unfold kBlk at hq; unfold mBlk; omega)), ⟨k2, k3.kp o (fun b hb => Or.inl (by unfold mBlk at hb; omega)), k4.kp o (fun b w e hb => by have := k4.lo e; unfold wBlk at hb; unfold mBlk; omega), k5.kp o (fun b r e hb => by have := k5.lo e; unfold rBlk at hb; unfold mBlk; omega)⟩, k6, k7, by omega, by omega⟩
theorem CH.xy (k : CH sg x y f4 m kpm pool zt ft f18 pap rwd rw h) : x + 196 ≤ y := by
  obtain ⟨S, kp, tk, zr, fr, p, e, o', zs, fs, b, fa, c, C, nm, g, k1, k2, k6, k7, k8⟩ := k
  exact k8.1
/-- what the class's side of a call has to show -/
def CP (sg : Bool) (x y : Nat) (f4 : Int) (m kpm pool : Nat → Int) (zt : Int) (ft : Nat → Int) (f18 : Int) (pap rwd rw : Nat → Int) (h h1 : mH) : Prop := CH sg x y f4 m kpm pool zt ft f18 pap rwd rw h1 ∧ (h1.1 = h.1 ∧ ∀ b, mBlk y b ∨ b < x → hGet h1 b = hGet h b) ∧ h1.2.1 ≤ h.2.1 + 400 ∧ h1.2.2.1 ≤ h.2.2.1 + 6000
theorem CP.rf (k : CH sg x y f4 m kpm pool zt ft f18 pap rwd rw h) : CP sg x y f4 m kpm pool zt ft f18 pap rwd rw h h := ⟨k, ⟨rfl, fun _ _ => rfl⟩, by omega, by omega⟩
/-- between both calls -/
def MDL (x y : Nat) (h h1 : mH) : Prop := h1.1 = h.1 ∧ (∀ q, q < x → hGet h1 q = hGet h q) ∧ ∃ fs, hGet h1 y = some (.inl (11, fs))
theorem MDL.of (e : h1.1 = h.1) (s : ∀ b, mBlk y b ∨ b < x → hGet h1 b = hGet h b) (k : MH y f4 m kpm pool zt ft f18 pap rwd rw h) : MDL x y h h1 := by
  obtain ⟨f14, f16, was, pln, r14, f8, f9, f10, f11, f12, f13, s0, r11, hB⟩ := k
  exact ⟨e, fun q hq => s q (Or.inr hq), _, (s y (Or.inl (by unfold mBlk; omega))).trans hB.gx⟩
theorem MDL.rf (k : MH y f4 m kpm pool zt ft f18 pap rwd rw h) : MDL x y h h := MDL.of rfl (fun _ _ => rfl) k
def isZ : Bool → Value → Prop
  | true, z => ∃ w, z = .long w
  | false, z => ∃ w, z = .int w
/-- one call on both -/
def TWO (sg : Bool) (G : mG) (l : Launch) (x y n : Nat) (lg : Bool) (Mc Mm : mM) (args : List Value) (h : mH) : Prop := ∃ z : Value, isZ lg z ∧ RUNM G l 1000 Mc (.ref x :: args) h (fun v h1 => v = some z ∧ MDL x y h h1 ∧ RUNM G l 1000 Mm (.ref y :: args) h1 (fun v h2 => v = some z ∧ RI sg x y (n + 1) h2 ∧ h2.1 = h.1 ∧ ∀ q, q < x → hGet h2 q = hGet h q))
theorem SO.up (k : SO n f4 m kpm pool zt ft f18 rwd rw) : SO (n + 1) f4 m kpm pool zt ft f18 rwd rw := by
  obtain ⟨⟨k1, k2⟩, ⟨k3, k4⟩, k5⟩ := k
  exact ⟨⟨k1.up (by omega) (by omega), k2⟩, ⟨k3, fun e => ⟨(k4 e).1.up (by omega) (by omega), (k4 e).2⟩⟩, k5⟩
theorem TWO.of {Mc Mm : mM} {args : List Value} {z : Value} {dc dm : Nat} (hdc : dc ≤ 1000) (hdm : dm ≤ 1000) {lg : Bool} (hk : isZ lg z) {f4' : Int} {m' kpm' pool' : Nat → Int} {zt' : Int} {ft' : Nat → Int} {f18' : Int} {pap' rwd' rw' : Nat → Int} (hz : SZ y n h) (hM : MH y f4 m kpm pool zt ft f18 pap rwd rw h)
    (hc : RUNM G l dc Mc (.ref x :: args) h (fun v h1 => v = some z ∧ CP sg x y f4' m' kpm' pool' zt' ft' f18' pap' rwd' rw' h h1))
    (hm : ∀ h1, MH y f4 m kpm pool zt ft f18 pap rwd rw h1 → RUNM G l dm Mm (.ref y :: args) h1 (fun v h2 => v = some z ∧ MH y f4' m' kpm' pool' zt' ft' f18' pap' rwd' rw' h2 ∧ Same (mBlk y) h1 h2))
    (hs : SO (n + 1) f4' m' kpm' pool' zt' ft' f18' rwd' rw') : TWO sg G l x y n lg Mc Mm args h := by
  refine ⟨z, hk, (hc.deeper hdc).mono (fun v h1 q => ⟨q.1, ?_⟩)⟩
  obtain ⟨q1, q2, ⟨q3, q4⟩, q5, q6⟩ := q
  refine ⟨MDL.of q3 q4 hM, ((hm h1 (hM.kp q3 (fun b hb => q4 b (Or.inl hb)))).deeper hdm).mono (fun v2 h2 r => ⟨r.1, ?_⟩)⟩
  obtain ⟨r1, r2, r3⟩ := r
  have e1 := r3.2.1
  have e2 := r3.2.2.1
  obtain ⟨z1, z2⟩ := hz
  have xy := q2.xy
  exact ⟨⟨f4', m', kpm', pool', zt', ft', f18', pap', rwd', rw', q2.kp (Old.of r3), r2, hs, by omega, by omega⟩, r3.1.trans q3, fun q hq => (r3.2.2.2 q (by unfold mBlk; omega)).trans (q4 q (Or.inr hq))⟩
end G0
end mg_g0
section mg_g1
/-! ===== what the contracts ask of a state ===== -/
def FX (m c : Nat → Int) (C : Nat → Nat → Int) (N K T Z F : Nat) : Prop :=
  (m 1 = (N : Int) ∧ c 0 = (N : Int) ∧ N ≤ 90) ∧ (m 0 = (K : Int) ∧ c 1 = (K : Int) ∧ 1 ≤ K ∧ K ≤ 60) ∧ (m 3 = (T : Int) ∧ c 2 = (T : Int) ∧ T ≤ 10) ∧ (c 10 = (Z : Int) ∧ Z < 150) ∧ ((c 11 = (F : Int) ∧ c 12 = (F : Int) ∧ c 13 = (F : Int)) ∧ F ≤ 90 ∧ (0 ≤ c 4 ∧ c 4 ≤ (F : Int))) ∧
  (oOk c ∧ parR m c ∧ parOk m K ∧ ownOk m N K) ∧ (c 8 = 8 ∧ (c 9 = m 2 ∧ 0 ≤ m 2 ∧ m 2 ≤ 90)) ∧ ((∀ q, InR (c q)) ∧ ∀ k q, InR (C k q)) ∧
  (∀ t : Nat, (t : Int) < m 1 → (0 ≤ m (258 + 14 * t) ∧ m (258 + 14 * t) ≤ 2) ∧ (0 ≤ m (259 + 14 * t) ∧ m (259 + 14 * t) < m 0)) ∧ (∀ t : Nat, t < T → -99 ≤ m (1609 + 72 * t) ∧ m (1609 + 72 * t) ≤ 99)
section FXS
variable {m pool c : Nat → Int} {S : Nat → Option mO} {C : Nat → Nat → Int} {nm : Nat → Int64} {g : Nat → Option Nat} {B T0 : Int}
theorem own_r (h0 : c 0 = m 1) (h1 : c 1 = m 0) (hm0 : m 0 ≤ 60) (hcS : crS m c) (hcT : crT m c nm) (hs : ScI m) (ht : ∀ t : Nat, (t : Int) < m 1 → 0 ≤ m (259 + 14 * t) ∧ m (259 + 14 * t) < m 0) : oOk c := by
  intro i
  unfold ownF
  by_cases z : 100 ≤ i
  · rw [if_pos z]
    by_cases w : inW c 1 60 (i - 100)
    · rw [if_pos w]
      obtain ⟨w1, w2, w3⟩ := w
      have e := (hcS (i - 100).toNat (by omega)).2.1
      rw [e]
      by_cases y : (i - 100).toNat = 0
      · rw [y]; have : m (19 + 4 * 0) = -5 := hs.1; omega
      · have := ((hs.2.2 (i - 100).toNat (by omega)).2 (by omega)).1
        omega
    · rw [if_neg w]; decide
  · rw [if_neg z]
    by_cases w : inW c 0 90 i
    · rw [if_pos w]
      obtain ⟨w1, w2, w3⟩ := w
      have e := (hcT i.toNat (by omega)).2.1
      rw [e]
      have := ht i.toNat (by omega)
      omega
    · rw [if_neg w]; decide
theorem fx_of (hT : CTR m pool S c C nm g) (hA : All m pool B T0) : ∃ N K T Z F : Nat, FX m c C N K T Z F := by
  obtain ⟨⟨hI, hs, hnc, hns⟩, ⟨hT0, hTk⟩, -, -⟩ := hA
  obtain ⟨hok, ⟨i1, i2, i3⟩, hth, -, -, -⟩ := hI
  obtain ⟨h, hTK⟩ := hT
  obtain ⟨n0, n1, n2, n8, n9⟩ := id h.1
  have hcT := h.2.1
  have hcS := h.2.2.1
  obtain ⟨Z, hE⟩ := id h.2.2.2.2.2.1
  obtain ⟨F, f0, f1, f2, f3, f4, f5, -⟩ := CR.fa h hok
  obtain ⟨-, o0, o1, o2, o3, -⟩ := id hok
  have hR : crR c C := h.2.2.2.2.2.2.2.2
  have z1 := hE.1
  have z2 := hE.2.1
  have ht2 : ∀ t : Nat, (t : Int) < m 1 → (0 ≤ m (258 + 14 * t) ∧ m (258 + 14 * t) ≤ 2) ∧ (0 ≤ m (259 + 14 * t) ∧ m (259 + 14 * t) < m 0) := fun t ht => ⟨(hth t ht).1, (hth t ht).2.1⟩
  refine ⟨(m 1).toNat, (m 0).toNat, (m 3).toNat, Z, F, ⟨by omega, by omega, by omega⟩, ⟨by omega, by omega, by omega, by omega⟩, ⟨by omega, by omega, by omega⟩, ⟨z1, by omega⟩, ⟨⟨f1, f2, f3⟩, f4, f5⟩, ⟨own_r n0 n1 o0.2 hcS hcT hs (fun t ht => (ht2 t ht).2), par_of n1 o0.2 hcS hs, ?_, ?_⟩, ⟨n8, n9, o2.1, o2.2⟩, ⟨hR.1, hR.2⟩, ht2, fun t ht => (hTk t (by omega)).1.1⟩
  · intro k k0 k1
    obtain ⟨a, rfl⟩ : ∃ a : Nat, k = a := ⟨k.toNat, by omega⟩
    rw [show ((19 : Int) + 4 * (a : Int)).toNat = 19 + 4 * a by omega]
    by_cases y : a = 0
    · subst y; have : m (19 + 4 * 0) = -5 := hs.1; omega
    · have := ((hs.2.2 a (by omega)).2 (by omega)).1
      omega
  · intro t ht
    have := (ht2 t (by omega)).2
    omega
end FXS
end mg_g1
section mg_g2
/-! ===== the calls that only ask, on both ===== -/
section G2
variable {sg : Bool} {G : mG} {l : Launch} {x y n : Nat} {h : mH} {f4 : Int} {m kpm pool : Nat → Int} {zt : Int} {ft : Nat → Int} {f18 : Int} {pap rwd rw : Nat → Int}
theorem TWO.ask {Mc Mm : mM} {args : List Value} {z : Value} {dc dm : Nat} (hdc : dc ≤ 1000) (hdm : dm ≤ 1000) {lg : Bool} (hk : isZ lg z) (hCH : CH sg x y f4 m kpm pool zt ft f18 pap rwd rw h) (hMH : MH y f4 m kpm pool zt ft f18 pap rwd rw h) (hSO : SO n f4 m kpm pool zt ft f18 rwd rw) (hz : SZ y n h)
    (hc : RUNM G l dc Mc (.ref x :: args) h (fun v h' => v = some z ∧ h' = h))
    (hm : ∀ (h1 : mH) (f8 f9 f10 f11 f12 f13 f14 f16 : Int) (was pln : Nat → Int) (s : Nat), InR f14 → (0 ≤ f11 ∧ f11 ≤ 99999) → isM h1 y (mFs y f4 zt f8 f9 f10 f11 f12 f13 f14 f16 f18 s) m kpm was pool ft pln pap rwd rw → RUNM G l dm Mm (.ref y :: args) h1 (fun v h' => v = some z ∧ h' = h1)) : TWO sg G l x y n lg Mc Mm args h := by
  refine TWO.of (pap' := pap) hdc hdm hk hz hMH (hc.mono (fun v h1 q => ⟨q.1, ?_⟩)) (fun h1 hM => ?_) hSO.up
  · obtain ⟨-, rfl⟩ := q
    exact CP.rf hCH
  · obtain ⟨f14, f16, was, pln, r14, f8, f9, f10, f11, f12, f13, s, r11, hB⟩ := id hM
    refine (hm h1 f8 f9 f10 f11 f12 f13 f14 f16 was pln s r14 r11 hB).mono (fun v h2 q => ⟨q.1, ?_⟩)
    obtain ⟨-, rfl⟩ := q
    exact ⟨hM, Same.refl⟩
theorem sw_0 {s : Int} (h : (0 ≤ s ∧ s ≤ 2) ∧ ¬ s = 1) : swT s = if s = 0 then 0 else 1 := by
  unfold swT
  rw [if_neg h.2]
  (repeat' split) <;> omega
end G2
set_option maxHeartbeats 4000000 in
set_option maxRecDepth 100000 in
theorem two_below {sg : Bool} {G : mG} {l : Launch} (hG : G.2.map Prod.snd = mTy) {x y n0 : Nat} {h : mH} (hn0 : n0 ≤ 600) (hI : RI sg x y n0 h) {a : Int} (ha : InR a) {i : Int} (hi : InR i) : TWO sg G l x y n0 false mX10_below mX11_below [.int (J a), .int (J i)] h := by
  obtain ⟨f4, m, kpm, pool, zt, ft, f18, pap, rwd, rw, hCH, hMH, hSO, hSZ⟩ := hI
  obtain ⟨S, kp, tk, zr, fr, p, e, o, zs, fs, b, fa, c, C, nm, g, hK, ⟨hT, hst, hke, htk⟩, hro, hpa, hxy⟩ := id hCH
  obtain ⟨⟨hA, hPo⟩, hkp, hta, h18, hrw⟩ := id hSO
  obtain ⟨N, K, T, Z, F, hX⟩ := fx_of hT hA
  obtain ⟨⟨mN, cN, N90⟩, ⟨mK, cK, K1, K60⟩, ⟨mT, cT, T10⟩, ⟨cZ, Z150⟩, ⟨⟨c11, c12, c13⟩, F90, c4⟩, ⟨hO, hpR, hpO, hoO⟩, ⟨c8, c9, L0, L90⟩, ⟨hc, hC⟩, hst2, htp⟩ := id hX
  obtain ⟨⟨hInv, hsc, hnc, hns⟩, hTk, hm7, hm8⟩ := id hA
  have hok := hInv.1
  have hM := hok.1
  have hCR := hT.1
  have hcT := hCR.2.1
  have hcS := hCR.2.2.1
  have hcK := hCR.2.2.2.1
  have hcL := hCR.2.2.2.2.1
  have hst3 : ∀ t : Nat, (t : Int) < m 1 → 0 ≤ m (258 + 14 * t) ∧ m (258 + 14 * t) ≤ 2 := fun t ht => (hst2 t ht).1
  refine TWO.ask (z := .int (J (belowV m K a i))) (Nat.le_of_ble_eq_true rfl) (Nat.le_of_ble_eq_true rfl) ⟨_, rfl⟩ hCH hMH hSO hSZ ((kg_below 0 hK hc hC hO ha hi).mono (fun v h' q0 => ⟨q0.1.trans ?_, q0.2⟩)) (fun h1 f8 f9 f10 f11 f12 f13 f14 f16 was pln s r14 r11 hB => m_below 0 hB mK K60 hpO ha hi)
  congr 3
  unfold belowV
  by_cases w : (0 ≤ a ∧ a ≤ m 0 - 1) ∧ (0 ≤ i ∧ i ≤ m 0 - 1)
  · rw [if_pos w, if_pos ⟨⟨by omega, by omega, by omega⟩, ⟨by omega, by omega, by omega⟩⟩, wi_be hpR w.2.1 mK K60 (by omega)]
  · rw [if_neg w, if_neg (fun z => w ⟨by omega, by omega⟩)]

set_option maxHeartbeats 4000000 in
set_option maxRecDepth 100000 in
theorem two_youngest {sg : Bool} {G : mG} {l : Launch} (hG : G.2.map Prod.snd = mTy) {x y n0 : Nat} {h : mH} (hn0 : n0 ≤ 600) (hI : RI sg x y n0 h) {a : Int} (ha : InR a) : TWO sg G l x y n0 false mX10_youngest mX11_youngest [.int (J a)] h := by
  obtain ⟨f4, m, kpm, pool, zt, ft, f18, pap, rwd, rw, hCH, hMH, hSO, hSZ⟩ := hI
  obtain ⟨S, kp, tk, zr, fr, p, e, o, zs, fs, b, fa, c, C, nm, g, hK, ⟨hT, hst, hke, htk⟩, hro, hpa, hxy⟩ := id hCH
  obtain ⟨⟨hA, hPo⟩, hkp, hta, h18, hrw⟩ := id hSO
  obtain ⟨N, K, T, Z, F, hX⟩ := fx_of hT hA
  obtain ⟨⟨mN, cN, N90⟩, ⟨mK, cK, K1, K60⟩, ⟨mT, cT, T10⟩, ⟨cZ, Z150⟩, ⟨⟨c11, c12, c13⟩, F90, c4⟩, ⟨hO, hpR, hpO, hoO⟩, ⟨c8, c9, L0, L90⟩, ⟨hc, hC⟩, hst2, htp⟩ := id hX
  obtain ⟨⟨hInv, hsc, hnc, hns⟩, hTk, hm7, hm8⟩ := id hA
  have hok := hInv.1
  have hM := hok.1
  have hCR := hT.1
  have hcT := hCR.2.1
  have hcS := hCR.2.2.1
  have hcK := hCR.2.2.2.1
  have hcL := hCR.2.2.2.2.1
  have hst3 : ∀ t : Nat, (t : Int) < m 1 → 0 ≤ m (258 + 14 * t) ∧ m (258 + 14 * t) ≤ 2 := fun t ht => (hst2 t ht).1
  refine TWO.ask (z := .int (J (youngV m N K a))) (Nat.le_of_ble_eq_true rfl) (Nat.le_of_ble_eq_true rfl) ⟨_, rfl⟩ hCH hMH hSO hSZ ((kg_youngest 0 hK hc hC hO cN N90 ha).mono (fun v h' q0 => ⟨q0.1.trans ?_, q0.2⟩)) (fun h1 f8 f9 f10 f11 f12 f13 f14 f16 was pln s r14 r11 hB => m_youngest 0 hB hM mN N90 mK K60 hpO hoO ha)
  congr 3
  unfold youngV
  by_cases w : 0 ≤ a ∧ a ≤ m 0 - 1
  · rw [if_pos w, if_pos ⟨by omega, by omega, by omega⟩]
    exact yw_eq N (fun t ht => hw_eq hpR hcT w.1 mK K60 (fun t ht => ⟨hst3 t ht, (hst2 t ht).2.2⟩) (by omega))
  · rw [if_neg w, if_neg (fun z => w ⟨by omega, by omega⟩)]

set_option maxHeartbeats 4000000 in
set_option maxRecDepth 100000 in
theorem two_entry {sg : Bool} {G : mG} {l : Launch} (hG : G.2.map Prod.snd = mTy) {x y n0 : Nat} {h : mH} (hn0 : n0 ≤ 600) (hI : RI sg x y n0 h) {a : Int} (ha : InR a) {i : Int} (hi : InR i) : TWO sg G l x y n0 false mX10_entry mX11_entry [.int (J a), .int (J i)] h := by
  obtain ⟨f4, m, kpm, pool, zt, ft, f18, pap, rwd, rw, hCH, hMH, hSO, hSZ⟩ := hI
  obtain ⟨S, kp, tk, zr, fr, p, e, o, zs, fs, b, fa, c, C, nm, g, hK, ⟨hT, hst, hke, htk⟩, hro, hpa, hxy⟩ := id hCH
  obtain ⟨⟨hA, hPo⟩, hkp, hta, h18, hrw⟩ := id hSO
  obtain ⟨N, K, T, Z, F, hX⟩ := fx_of hT hA
  obtain ⟨⟨mN, cN, N90⟩, ⟨mK, cK, K1, K60⟩, ⟨mT, cT, T10⟩, ⟨cZ, Z150⟩, ⟨⟨c11, c12, c13⟩, F90, c4⟩, ⟨hO, hpR, hpO, hoO⟩, ⟨c8, c9, L0, L90⟩, ⟨hc, hC⟩, hst2, htp⟩ := id hX
  obtain ⟨⟨hInv, hsc, hnc, hns⟩, hTk, hm7, hm8⟩ := id hA
  have hok := hInv.1
  have hM := hok.1
  have hCR := hT.1
  have hcT := hCR.2.1
  have hcS := hCR.2.2.1
  have hcK := hCR.2.2.2.1
  have hcL := hCR.2.2.2.2.1
  have hst3 : ∀ t : Nat, (t : Int) < m 1 → 0 ≤ m (258 + 14 * t) ∧ m (258 + 14 * t) ≤ 2 := fun t ht => (hst2 t ht).1
  have h6 : InR (m 6 + 1) := by
    have := hInv.2.2.2.2.1
    exact ⟨by omega, by omega⟩
  refine TWO.ask (z := .int (J (entryV m N K a i))) (Nat.le_of_ble_eq_true rfl) (Nat.le_of_ble_eq_true rfl) ⟨_, rfl⟩ hCH hMH hSO hSZ ((kg_entry 0 hK hc hC cZ (Nat.le_of_lt Z150) ha hi).mono (fun v h' q0 => ⟨q0.1.trans ?_, q0.2⟩)) (fun h1 f8 f9 f10 f11 f12 f13 f14 f16 was pln s r14 r11 hB => m_entry 0 hB hM mN N90 mK K1 K60 ha hi h6)
  congr 3
  by_cases w : 0 ≤ a ∧ a ≤ m 0 - 1
  · rw [if_pos ⟨by omega, by omega, by omega⟩]
    exact entry_both hCR hok hsc hnc hst3 cZ mN mK w
  · rw [if_neg (fun z => w ⟨by omega, by omega⟩)]
    unfold entryV
    rw [if_neg (fun z => w z.1)]

set_option maxHeartbeats 4000000 in
set_option maxRecDepth 100000 in
theorem two_scope {sg : Bool} {G : mG} {l : Launch} (hG : G.2.map Prod.snd = mTy) {x y n0 : Nat} {h : mH} (hn0 : n0 ≤ 600) (hI : RI sg x y n0 h) {a : Int} (ha : InR a) {i : Int} (hi : InR i) : TWO sg G l x y n0 false mX10_scope mX11_scope [.int (J a), .int (J i)] h := by
  obtain ⟨f4, m, kpm, pool, zt, ft, f18, pap, rwd, rw, hCH, hMH, hSO, hSZ⟩ := hI
  obtain ⟨S, kp, tk, zr, fr, p, e, o, zs, fs, b, fa, c, C, nm, g, hK, ⟨hT, hst, hke, htk⟩, hro, hpa, hxy⟩ := id hCH
  obtain ⟨⟨hA, hPo⟩, hkp, hta, h18, hrw⟩ := id hSO
  obtain ⟨N, K, T, Z, F, hX⟩ := fx_of hT hA
  obtain ⟨⟨mN, cN, N90⟩, ⟨mK, cK, K1, K60⟩, ⟨mT, cT, T10⟩, ⟨cZ, Z150⟩, ⟨⟨c11, c12, c13⟩, F90, c4⟩, ⟨hO, hpR, hpO, hoO⟩, ⟨c8, c9, L0, L90⟩, ⟨hc, hC⟩, hst2, htp⟩ := id hX
  obtain ⟨⟨hInv, hsc, hnc, hns⟩, hTk, hm7, hm8⟩ := id hA
  have hok := hInv.1
  have hM := hok.1
  have hCR := hT.1
  have hcT := hCR.2.1
  have hcS := hCR.2.2.1
  have hcK := hCR.2.2.2.1
  have hcL := hCR.2.2.2.2.1
  have hst3 : ∀ t : Nat, (t : Int) < m 1 → 0 ≤ m (258 + 14 * t) ∧ m (258 + 14 * t) ≤ 2 := fun t ht => (hst2 t ht).1
  refine TWO.ask (z := .int (J (scopeV m N K a i))) (Nat.le_of_ble_eq_true rfl) (Nat.le_of_ble_eq_true rfl) ⟨_, rfl⟩ hCH hMH hSO hSZ ((kg_scope 0 hK hc hC hO cN N90 cZ (Nat.le_of_lt Z150) ha hi).mono (fun v h' q0 => ⟨q0.1.trans ?_, q0.2⟩)) (fun h1 f8 f9 f10 f11 f12 f13 f14 f16 was pln s r14 r11 hB => m_scope 0 hB hM mN N90 mK K1 K60 hpO hoO ha hi)
  congr 3
  unfold scopeV
  by_cases w : 0 ≤ a ∧ a ≤ m 0 - 1
  · rw [if_pos w, if_pos ⟨by omega, by omega, by omega⟩]
    obtain ⟨q, rfl⟩ : ∃ q : Nat, a = q := ⟨a.toNat, by omega⟩
    obtain ⟨s1, s2, s3⟩ := hcS q (by omega)
    have s4 := hsc.2.2 q (by omega)
    have s5 := hns q (by omega)
    have s6 := hpR q (by omega)
    rw [show ((q : Int)).toNat = q by omega, show ((18 : Int) + 4 * (q : Int)).toNat = 18 + 4 * q by omega, show ((19 : Int) + 4 * (q : Int)).toNat = 19 + 4 * q by omega, show ((21 : Int) + 4 * (q : Int)).toNat = 21 + 4 * q by omega, s1, s2, s3, s6.1, sw_0 ⟨s4.1, s5⟩, en_eq hCR hok hsc hnc hst3 w.1 cZ mN mK, cnt_congr N (p' := heldInB m K (q : Int)) (fun t ht => hw_eq hpR hcT w.1 mK K60 (fun t ht => ⟨hst3 t ht, (hst2 t ht).2.2⟩) (by omega)), sa_up hpR 60 K (m (19 + 4 * q)) (by omega) (by omega) (by omega)]
  · rw [if_neg w, if_neg (fun z => w ⟨by omega, by omega⟩)]

set_option maxHeartbeats 4000000 in
set_option maxRecDepth 100000 in
theorem two_name {sg : Bool} {G : mG} {l : Launch} (hG : G.2.map Prod.snd = mTy) {x y n0 : Nat} {h : mH} (hn0 : n0 ≤ 600) (hI : RI sg x y n0 h) {a : Int} (ha : InR a) {i : Int} (hi : InR i) : TWO sg G l x y n0 false mX10_name mX11_name [.int (J a), .int (J i)] h := by
  obtain ⟨f4, m, kpm, pool, zt, ft, f18, pap, rwd, rw, hCH, hMH, hSO, hSZ⟩ := hI
  obtain ⟨S, kp, tk, zr, fr, p, e, o, zs, fs, b, fa, c, C, nm, g, hK, ⟨hT, hst, hke, htk⟩, hro, hpa, hxy⟩ := id hCH
  obtain ⟨⟨hA, hPo⟩, hkp, hta, h18, hrw⟩ := id hSO
  obtain ⟨N, K, T, Z, F, hX⟩ := fx_of hT hA
  obtain ⟨⟨mN, cN, N90⟩, ⟨mK, cK, K1, K60⟩, ⟨mT, cT, T10⟩, ⟨cZ, Z150⟩, ⟨⟨c11, c12, c13⟩, F90, c4⟩, ⟨hO, hpR, hpO, hoO⟩, ⟨c8, c9, L0, L90⟩, ⟨hc, hC⟩, hst2, htp⟩ := id hX
  obtain ⟨⟨hInv, hsc, hnc, hns⟩, hTk, hm7, hm8⟩ := id hA
  have hok := hInv.1
  have hM := hok.1
  have hCR := hT.1
  have hcT := hCR.2.1
  have hcS := hCR.2.2.1
  have hcK := hCR.2.2.2.1
  have hcL := hCR.2.2.2.2.1
  have hst3 : ∀ t : Nat, (t : Int) < m 1 → 0 ≤ m (258 + 14 * t) ∧ m (258 + 14 * t) ≤ 2 := fun t ht => (hst2 t ht).1
  have hle : lenOk m := by
    intro t t0 t1
    obtain ⟨q, rfl⟩ : ∃ q : Nat, t = q := ⟨t.toNat, by omega⟩
    have ok := (hcT q (by omega)).2.2.2.2.1
    rw [show ((261 : Int) + 14 * (q : Int)).toNat = 261 + 14 * q by omega]
    omega
  refine TWO.ask (z := .int (J (nameV m a i))) (Nat.le_of_ble_eq_true rfl) (Nat.le_of_ble_eq_true rfl) ⟨_, rfl⟩ hCH hMH hSO hSZ ((kg_name 0 hK hc hC ha hi).mono (fun v h' q0 => ⟨q0.1.trans ?_, q0.2⟩)) (fun h1 f8 f9 f10 f11 f12 f13 f14 f16 was pln s r14 r11 hB => m_name 0 hB hM ⟨by omega, by omega⟩ hle ha hi)
  congr 3
  unfold nameV
  by_cases w : 0 ≤ a ∧ a ≤ m 1 - 1
  · rw [if_pos ⟨by omega, by omega, by omega⟩]
    obtain ⟨q, rfl⟩ : ∃ q : Nat, a = q := ⟨a.toNat, by omega⟩
    have e1 := name_eq hcT (t := q) (by omega)
    have ok := (hcT q (by omega)).2.2.2.2
    rw [show ((q : Int)).toNat = q by omega, e1.1, e1.2 i, show ((261 : Int) + 14 * (q : Int)).toNat = 261 + 14 * q by omega]
    by_cases w2 : i = -1
    · have := ok.1
      rw [if_pos w2, if_pos ⟨w, by omega⟩, if_pos (by omega)]
    · rw [if_neg w2]
      by_cases w3 : 0 ≤ i ∧ i ≤ m (261 + 14 * q) - 1
      · obtain ⟨j, rfl⟩ : ∃ j : Nat, i = j := ⟨i.toNat, by omega⟩
        have lt := ok.2 j (by omega)
        unfold isLt at lt
        rw [if_pos w3, show ((265 : Int) + 14 * (q : Int) + (j : Int)).toNat = 265 + 14 * q + j by omega, if_neg (show ¬ m (265 + 14 * q + j) = 0 by omega), if_pos (show (0 ≤ (q : Int) ∧ (q : Int) ≤ m 1 - 1) ∧ (-1 ≤ (j : Int) ∧ (j : Int) ≤ m (261 + 14 * q) - 1) from ⟨w, by omega, by omega⟩), if_neg (by omega)]
      · rw [if_neg w3, if_pos rfl, if_neg (fun z => w3 (by omega))]
  · rw [if_neg (fun z => w ⟨by omega, by omega⟩), if_neg (fun z => w z.1)]

set_option maxHeartbeats 4000000 in
set_option maxRecDepth 100000 in
theorem two_byName {sg : Bool} {G : mG} {l : Launch} (hG : G.2.map Prod.snd = mTy) {x y n0 : Nat} {h : mH} (hn0 : n0 ≤ 600) (hI : RI sg x y n0 h) {a : Int} (ha : InR a) : TWO sg G l x y n0 false mX10_byName mX11_byName [.int (J a)] h := by
  obtain ⟨f4, m, kpm, pool, zt, ft, f18, pap, rwd, rw, hCH, hMH, hSO, hSZ⟩ := hI
  obtain ⟨S, kp, tk, zr, fr, p, e, o, zs, fs, b, fa, c, C, nm, g, hK, ⟨hT, hst, hke, htk⟩, hro, hpa, hxy⟩ := id hCH
  obtain ⟨⟨hA, hPo⟩, hkp, hta, h18, hrw⟩ := id hSO
  obtain ⟨N, K, T, Z, F, hX⟩ := fx_of hT hA
  obtain ⟨⟨mN, cN, N90⟩, ⟨mK, cK, K1, K60⟩, ⟨mT, cT, T10⟩, ⟨cZ, Z150⟩, ⟨⟨c11, c12, c13⟩, F90, c4⟩, ⟨hO, hpR, hpO, hoO⟩, ⟨c8, c9, L0, L90⟩, ⟨hc, hC⟩, hst2, htp⟩ := id hX
  obtain ⟨⟨hInv, hsc, hnc, hns⟩, hTk, hm7, hm8⟩ := id hA
  have hok := hInv.1
  have hM := hok.1
  have hCR := hT.1
  have hcT := hCR.2.1
  have hcS := hCR.2.2.1
  have hcK := hCR.2.2.2.1
  have hcL := hCR.2.2.2.2.1
  have hst3 : ∀ t : Nat, (t : Int) < m 1 → 0 ≤ m (258 + 14 * t) ∧ m (258 + 14 * t) ≤ 2 := fun t ht => (hst2 t ht).1
  have hnm : ∀ t : Nat, t < N → (0 ≤ m (261 + 14 * t) ∧ m (261 + 14 * t) ≤ 7) ∧ ∀ k : Nat, k < 7 → -200 ≤ m (265 + 14 * t + k) ∧ m (265 + 14 * t + k) ≤ 200 := by
    intro t ht
    have ok := (hcT t (by omega)).2.2.2.2.1
    refine ⟨by omega, fun k hk => ?_⟩
    have := hInv.2.2.2.2.2 t k (by omega) hk
    omega
  refine TWO.ask (z := .int (J (bnL m N a N 0))) (Nat.le_of_ble_eq_true rfl) (Nat.le_of_ble_eq_true rfl) ⟨_, rfl⟩ hCH hMH hSO hSZ ((kg_byName 0 hK hc hC cN N90 ha).mono (fun v h' q0 => ⟨q0.1.trans ?_, q0.2⟩)) (fun h1 f8 f9 f10 f11 f12 f13 f14 f16 was pln s r14 r11 hB => m_byName 0 hB hok mN hnm ha)
  congr 3
  exact hp_eq hcT hst3 mN N 0 (by omega)

set_option maxHeartbeats 4000000 in
set_option maxRecDepth 100000 in
theorem two_log {sg : Bool} {G : mG} {l : Launch} (hG : G.2.map Prod.snd = mTy) {x y n0 : Nat} {h : mH} (hn0 : n0 ≤ 600) (hI : RI sg x y n0 h) {a : Int} (ha : InR a) : TWO sg G l x y n0 false mX10_log mX11_log [.int (J a)] h := by
  obtain ⟨f4, m, kpm, pool, zt, ft, f18, pap, rwd, rw, hCH, hMH, hSO, hSZ⟩ := hI
  obtain ⟨S, kp, tk, zr, fr, p, e, o, zs, fs, b, fa, c, C, nm, g, hK, ⟨hT, hst, hke, htk⟩, hro, hpa, hxy⟩ := id hCH
  obtain ⟨⟨hA, hPo⟩, hkp, hta, h18, hrw⟩ := id hSO
  obtain ⟨N, K, T, Z, F, hX⟩ := fx_of hT hA
  obtain ⟨⟨mN, cN, N90⟩, ⟨mK, cK, K1, K60⟩, ⟨mT, cT, T10⟩, ⟨cZ, Z150⟩, ⟨⟨c11, c12, c13⟩, F90, c4⟩, ⟨hO, hpR, hpO, hoO⟩, ⟨c8, c9, L0, L90⟩, ⟨hc, hC⟩, hst2, htp⟩ := id hX
  obtain ⟨⟨hInv, hsc, hnc, hns⟩, hTk, hm7, hm8⟩ := id hA
  have hok := hInv.1
  have hM := hok.1
  have hCR := hT.1
  have hcT := hCR.2.1
  have hcS := hCR.2.2.1
  have hcK := hCR.2.2.2.1
  have hcL := hCR.2.2.2.2.1
  have hst3 : ∀ t : Nat, (t : Int) < m 1 → 0 ≤ m (258 + 14 * t) ∧ m (258 + 14 * t) ≤ 2 := fun t ht => (hst2 t ht).1
  refine TWO.ask (z := .int (J (logV m a))) (Nat.le_of_ble_eq_true rfl) (Nat.le_of_ble_eq_true rfl) ⟨_, rfl⟩ hCH hMH hSO hSZ ((kg_log 0 hK hc hC ha).mono (fun v h' q0 => ⟨q0.1.trans ?_, q0.2⟩)) (fun h1 f8 f9 f10 f11 f12 f13 f14 f16 was pln s r14 r11 hB => m_log 0 hB ha L0 L90)
  congr 3
  unfold logV
  by_cases w : 0 ≤ a ∧ a ≤ m 2 - 1
  · rw [if_pos w, if_pos ⟨by omega, by omega, by omega⟩, show ((1518 : Int) + a).toNat = 1518 + a.toNat by omega]
    exact hcL.2 a.toNat (by omega)
  · rw [if_neg w, if_neg (fun z => w ⟨by omega, by omega⟩)]

set_option maxHeartbeats 4000000 in
set_option maxRecDepth 100000 in
theorem two_paper {G : mG} {l : Launch} (hG : G.2.map Prod.snd = mTy) {x y n0 : Nat} {h : mH} (hn0 : n0 ≤ 600) (hI : RI true x y n0 h) {a : Int} (ha : InR a) : TWO true G l x y n0 false mX10_paper mX11_paper [.int (J a)] h := by
  obtain ⟨f4, m, kpm, pool, zt, ft, f18, pap, rwd, rw, hCH, hMH, hSO, hSZ⟩ := hI
  obtain ⟨S, kp, tk, zr, fr, p, e, o, zs, fs, b, fa, c, C, nm, g, hK, ⟨hT, hst, hke, htk⟩, hro, hpa, hxy⟩ := id hCH
  obtain ⟨⟨hA, hPo⟩, hkp, hta, h18, hrw⟩ := id hSO
  obtain ⟨N, K, T, Z, F, hX⟩ := fx_of hT hA
  obtain ⟨⟨mN, cN, N90⟩, ⟨mK, cK, K1, K60⟩, ⟨mT, cT, T10⟩, ⟨cZ, Z150⟩, ⟨⟨c11, c12, c13⟩, F90, c4⟩, ⟨hO, hpR, hpO, hoO⟩, ⟨c8, c9, L0, L90⟩, ⟨hc, hC⟩, hst2, htp⟩ := id hX
  obtain ⟨⟨hInv, hsc, hnc, hns⟩, hTk, hm7, hm8⟩ := id hA
  have hok := hInv.1
  have hM := hok.1
  have hCR := hT.1
  have hcT := hCR.2.1
  have hcS := hCR.2.2.1
  have hcK := hCR.2.2.2.1
  have hcL := hCR.2.2.2.2.1
  have hst3 : ∀ t : Nat, (t : Int) < m 1 → 0 ≤ m (258 + 14 * t) ∧ m (258 + 14 * t) ≤ 2 := fun t ht => (hst2 t ht).1
  refine TWO.ask (z := .int (J (paperV f18 pap a))) (Nat.le_of_ble_eq_true rfl) (Nat.le_of_ble_eq_true rfl) ⟨_, rfl⟩ hCH hMH hSO hSZ ((kg_paper 0 hK hc hC (by have := hpa.1; exact ⟨by omega, by omega⟩) ha).mono (fun v h' q0 => ⟨q0.1.trans ?_, q0.2⟩)) (fun h1 f8 f9 f10 f11 f12 f13 f14 f16 was pln s r14 r11 hB => m_paper 0 hB ha h18.1 h18.2)
  congr 3
  unfold paperV
  have e1 := (hpa.2 rfl).1
  by_cases w : 0 ≤ a ∧ a ≤ f18 - 1
  · rw [if_pos w, if_pos ⟨by omega, by omega, by omega⟩]
    exact (hpa.2 rfl).2 a.toNat (by omega)
  · rw [if_neg w, if_neg (fun z => w ⟨by omega, by omega⟩)]

set_option maxHeartbeats 4000000 in
set_option maxRecDepth 100000 in
theorem two_counter {sg : Bool} {G : mG} {l : Launch} (hG : G.2.map Prod.snd = mTy) {x y n0 : Nat} {h : mH} (hn0 : n0 ≤ 600) (hI : RI sg x y n0 h) {a : Int} (ha : InR a) : TWO sg G l x y n0 true mX10_counter mX11_counter [.int (J a)] h := by
  obtain ⟨f4, m, kpm, pool, zt, ft, f18, pap, rwd, rw, hCH, hMH, hSO, hSZ⟩ := hI
  obtain ⟨S, kp, tk, zr, fr, p, e, o, zs, fs, b, fa, c, C, nm, g, hK, ⟨hT, hst, hke, htk⟩, hro, hpa, hxy⟩ := id hCH
  obtain ⟨⟨hA, hPo⟩, hkp, hta, h18, hrw⟩ := id hSO
  obtain ⟨N, K, T, Z, F, hX⟩ := fx_of hT hA
  obtain ⟨⟨mN, cN, N90⟩, ⟨mK, cK, K1, K60⟩, ⟨mT, cT, T10⟩, ⟨cZ, Z150⟩, ⟨⟨c11, c12, c13⟩, F90, c4⟩, ⟨hO, hpR, hpO, hoO⟩, ⟨c8, c9, L0, L90⟩, ⟨hc, hC⟩, hst2, htp⟩ := id hX
  obtain ⟨⟨hInv, hsc, hnc, hns⟩, hTk, hm7, hm8⟩ := id hA
  have hok := hInv.1
  have hM := hok.1
  have hCR := hT.1
  have hcT := hCR.2.1
  have hcS := hCR.2.2.1
  have hcK := hCR.2.2.2.1
  have hcL := hCR.2.2.2.2.1
  have hst3 : ∀ t : Nat, (t : Int) < m 1 → 0 ≤ m (258 + 14 * t) ∧ m (258 + 14 * t) ≤ 2 := fun t ht => (hst2 t ht).1
  refine TWO.ask (z := counterV m a) (Nat.le_of_ble_eq_true rfl) (Nat.le_of_ble_eq_true rfl) (by unfold counterV lgV lgNo; split <;> exact ⟨_, rfl⟩) hCH hMH hSO hSZ ((kg_counter 0 hK hc hC c8 ha).mono (fun v h' q0 => ⟨q0.1.trans ?_, q0.2⟩)) (fun h1 f8 f9 f10 f11 f12 f13 f14 f16 was pln s r14 r11 hB => m_counter 0 hB ha)
  unfold counterV lgV lgNo
  by_cases w : 0 ≤ a ∧ a ≤ 7
  · rw [if_pos w, if_pos (by omega), show ((10 : Int) + a).toNat = 10 + a.toNat by omega, hcL.1 a.toNat (by omega)]
  · rw [if_neg w, if_neg (by omega)]

set_option maxHeartbeats 4000000 in
set_option maxRecDepth 100000 in
theorem two_get {sg : Bool} {G : mG} {l : Launch} (hG : G.2.map Prod.snd = mTy) {x y n0 : Nat} {h : mH} (hn0 : n0 ≤ 600) (hI : RI sg x y n0 h) {a : Int} (ha : InR a) {i : Int} (hi : InR i) : TWO sg G l x y n0 true mX10_get mX11_get [.int (J a), .int (J i)] h := by
  obtain ⟨f4, m, kpm, pool, zt, ft, f18, pap, rwd, rw, hCH, hMH, hSO, hSZ⟩ := hI
  obtain ⟨S, kp, tk, zr, fr, p, e, o, zs, fs, b, fa, c, C, nm, g, hK, ⟨hT, hst, hke, htk⟩, hro, hpa, hxy⟩ := id hCH
  obtain ⟨⟨hA, hPo⟩, hkp, hta, h18, hrw⟩ := id hSO
  obtain ⟨N, K, T, Z, F, hX⟩ := fx_of hT hA
  obtain ⟨⟨mN, cN, N90⟩, ⟨mK, cK, K1, K60⟩, ⟨mT, cT, T10⟩, ⟨cZ, Z150⟩, ⟨⟨c11, c12, c13⟩, F90, c4⟩, ⟨hO, hpR, hpO, hoO⟩, ⟨c8, c9, L0, L90⟩, ⟨hc, hC⟩, hst2, htp⟩ := id hX
  obtain ⟨⟨hInv, hsc, hnc, hns⟩, hTk, hm7, hm8⟩ := id hA
  have hok := hInv.1
  have hM := hok.1
  have hCR := hT.1
  have hcT := hCR.2.1
  have hcS := hCR.2.2.1
  have hcK := hCR.2.2.2.1
  have hcL := hCR.2.2.2.2.1
  have hst3 : ∀ t : Nat, (t : Int) < m 1 → 0 ≤ m (258 + 14 * t) ∧ m (258 + 14 * t) ≤ 2 := fun t ht => (hst2 t ht).1
  refine TWO.ask (z := getV rwd rw a i) (Nat.le_of_ble_eq_true rfl) (Nat.le_of_ble_eq_true rfl) (by unfold getV lgV lgNo; split <;> exact ⟨_, rfl⟩) hCH hMH hSO hSZ ((kg_get 0 hK hc hC (fun q => (hro.1.1 q).1) hro.1.2 ha hi).mono (fun v h' q0 => ⟨q0.1.trans ?_, q0.2⟩)) (fun h1 f8 f9 f10 f11 f12 f13 f14 f16 was pln s r14 r11 hB => m_get 0 hB (fun q => (hrw.1 q).1) ha hi (fun q => (hrw.1 q).2))
  unfold getV lgV lgNo wrongV
  by_cases w : 0 ≤ a ∧ a ≤ 3
  · rw [if_pos w]
    rcases hro.2 a.toNat (by omega) with ⟨r1, r2⟩ | ⟨r1, r2, r3⟩
    · rw [if_pos (show rwd a.toNat < 0 by omega), if_neg (show ¬ ((0 ≤ a ∧ a < 4) ∧ inI 40 (zr a.toNat) i) from fun z => by have := z.2; omega), if_neg (fun z => absurd z.1 (by decide))]
    · rw [if_neg (show ¬ rwd a.toNat < 0 by omega)]
      have r4 := (hro.1.1 a.toNat).2
      by_cases w2 : 0 ≤ i ∧ i ≤ rwd a.toNat - 1
      · rw [if_pos (show (0 ≤ a ∧ a < 4) ∧ inI 40 (zr a.toNat) i from ⟨⟨by omega, by omega⟩, ⟨by omega, by omega, by omega⟩⟩), if_pos (show (0 : Int) = 0 ∧ (0 ≤ i ∧ i ≤ rwd a.toNat - 1) from ⟨rfl, w2⟩), r3 i.toNat (by omega), show ((40 : Int) * a + i).toNat = 40 * a.toNat + i.toNat by omega]
      · rw [if_neg (show ¬ ((0 ≤ a ∧ a < 4) ∧ inI 40 (zr a.toNat) i) from fun z => w2 (by have := z.2; omega)), if_neg (show ¬ ((0 : Int) = 0 ∧ (0 ≤ i ∧ i ≤ rwd a.toNat - 1)) from fun z => w2 z.2)]
  · rw [if_neg w, if_neg (show ¬ ((0 ≤ a ∧ a < 4) ∧ inI 40 (zr a.toNat) i) from fun z => w (by omega)), if_neg (fun z => absurd z.1 (by decide))]

set_option maxHeartbeats 4000000 in
set_option maxRecDepth 100000 in
theorem two_faults {sg : Bool} {G : mG} {l : Launch} (hG : G.2.map Prod.snd = mTy) {x y n0 : Nat} {h : mH} (hn0 : n0 ≤ 600) (hI : RI sg x y n0 h) {a : Int} (ha : InR a) : TWO sg G l x y n0 false mX10_faults mX11_faults [.int (J a)] h := by
  obtain ⟨f4, m, kpm, pool, zt, ft, f18, pap, rwd, rw, hCH, hMH, hSO, hSZ⟩ := hI
  obtain ⟨S, kp, tk, zr, fr, p, e, o, zs, fs, b, fa, c, C, nm, g, hK, ⟨hT, hst, hke, htk⟩, hro, hpa, hxy⟩ := id hCH
  obtain ⟨⟨hA, hPo⟩, hkp, hta, h18, hrw⟩ := id hSO
  obtain ⟨N, K, T, Z, F, hX⟩ := fx_of hT hA
  obtain ⟨⟨mN, cN, N90⟩, ⟨mK, cK, K1, K60⟩, ⟨mT, cT, T10⟩, ⟨cZ, Z150⟩, ⟨⟨c11, c12, c13⟩, F90, c4⟩, ⟨hO, hpR, hpO, hoO⟩, ⟨c8, c9, L0, L90⟩, ⟨hc, hC⟩, hst2, htp⟩ := id hX
  obtain ⟨⟨hInv, hsc, hnc, hns⟩, hTk, hm7, hm8⟩ := id hA
  have hok := hInv.1
  have hM := hok.1
  have hCR := hT.1
  have hcT := hCR.2.1
  have hcS := hCR.2.2.1
  have hcK := hCR.2.2.2.1
  have hcL := hCR.2.2.2.2.1
  have hst3 : ∀ t : Nat, (t : Int) < m 1 → 0 ≤ m (258 + 14 * t) ∧ m (258 + 14 * t) ≤ 2 := fun t ht => (hst2 t ht).1
  obtain ⟨N4, m4⟩ : ∃ q : Nat, m 4 = q := ⟨(m 4).toNat, by have := hok.2.2.2.2.2.1; omega⟩
  have h4 := hok.2.2.2.2.2.1
  have h5 := hok.2.2.2.2.2.2.1
  have h3 := hok.2.2.2.2.1
  refine TWO.ask (z := .int (J (faultsV m N4 a))) (Nat.le_of_ble_eq_true rfl) (Nat.le_of_ble_eq_true rfl) ⟨_, rfl⟩ hCH hMH hSO hSZ ((kg_faults 0 hK hc hC c11 c12 c13 F90 c4 ha).mono (fun v h' q0 => ⟨q0.1.trans ?_, q0.2⟩)) (fun h1 f8 f9 f10 f11 f12 f13 f14 f16 was pln s r14 r11 hB => m_faults 0 hB hM h3 m4 (by omega) ha)
  congr 3
  unfold faultsV
  by_cases w : a = -1 ∨ (0 ≤ a ∧ a ≤ m 3 - 1)
  · rw [if_pos w, if_pos (w.elim Or.inl (fun z => Or.inr ⟨by omega, by omega, by omega⟩))]
    exact fc_eq hCR hT.2 hok w m4 c11
  · rw [if_neg w, if_neg (fun z => w (z.elim Or.inl (fun z => Or.inr ⟨by omega, by omega⟩)))]

set_option maxHeartbeats 4000000 in
set_option maxRecDepth 100000 in
theorem two_fault {sg : Bool} {G : mG} {l : Launch} (hG : G.2.map Prod.snd = mTy) {x y n0 : Nat} {h : mH} (hn0 : n0 ≤ 600) (hI : RI sg x y n0 h) {a : Int} (ha : InR a) {i : Int} (hi : InR i) {u : Int} (hu : InR u) : TWO sg G l x y n0 false mX10_fault mX11_fault [.int (J a), .int (J i), .int (J u)] h := by
  obtain ⟨f4, m, kpm, pool, zt, ft, f18, pap, rwd, rw, hCH, hMH, hSO, hSZ⟩ := hI
  obtain ⟨S, kp, tk, zr, fr, p, e, o, zs, fs, b, fa, c, C, nm, g, hK, ⟨hT, hst, hke, htk⟩, hro, hpa, hxy⟩ := id hCH
  obtain ⟨⟨hA, hPo⟩, hkp, hta, h18, hrw⟩ := id hSO
  obtain ⟨N, K, T, Z, F, hX⟩ := fx_of hT hA
  obtain ⟨⟨mN, cN, N90⟩, ⟨mK, cK, K1, K60⟩, ⟨mT, cT, T10⟩, ⟨cZ, Z150⟩, ⟨⟨c11, c12, c13⟩, F90, c4⟩, ⟨hO, hpR, hpO, hoO⟩, ⟨c8, c9, L0, L90⟩, ⟨hc, hC⟩, hst2, htp⟩ := id hX
  obtain ⟨⟨hInv, hsc, hnc, hns⟩, hTk, hm7, hm8⟩ := id hA
  have hok := hInv.1
  have hM := hok.1
  have hCR := hT.1
  have hcT := hCR.2.1
  have hcS := hCR.2.2.1
  have hcK := hCR.2.2.2.1
  have hcL := hCR.2.2.2.2.1
  have hst3 : ∀ t : Nat, (t : Int) < m 1 → 0 ≤ m (258 + 14 * t) ∧ m (258 + 14 * t) ≤ 2 := fun t ht => (hst2 t ht).1
  obtain ⟨N4, m4⟩ : ∃ q : Nat, m 4 = q := ⟨(m 4).toNat, by have := hok.2.2.2.2.2.1; omega⟩
  have h4 := hok.2.2.2.2.2.1
  have h5 := hok.2.2.2.2.2.2.1
  have h3 := hok.2.2.2.2.1
  refine TWO.ask (z := .int (J (faultV m N4 a i u))) (Nat.le_of_ble_eq_true rfl) (Nat.le_of_ble_eq_true rfl) ⟨_, rfl⟩ hCH hMH hSO hSZ ((kg_fault 0 hK hc hC c11 c12 c13 F90 c4 ha hi hu).mono (fun v h' q0 => ⟨q0.1.trans ?_, q0.2⟩)) (fun h1 f8 f9 f10 f11 f12 f13 f14 f16 was pln s r14 r11 hB => m_fault 0 hB hM h3 m4 (by omega) h5 ha hi hu)
  congr 3
  unfold faultV
  by_cases w : a = -1 ∨ (0 ≤ a ∧ a ≤ m 3 - 1)
  · rw [if_pos (w.elim Or.inl (fun z => Or.inr ⟨by omega, by omega, by omega⟩)), fc_eq hCR hT.2 hok w m4 c11]
    by_cases w2 : (0 ≤ u ∧ u ≤ 1) ∧ (0 ≤ i ∧ i ≤ manyV m N4 a - 1)
    · have e1 := fn_eq hCR hT.2 hok w m4 c11 (k := i) ⟨by omega, by omega⟩
      rw [if_pos (show (0 ≤ i ∧ i < manyV m N4 a) ∧ (u = 0 ∨ u = 1) from ⟨⟨by omega, by omega⟩, by omega⟩), if_pos (show (a = -1 ∨ (0 ≤ a ∧ a ≤ m 3 - 1)) ∧ (0 ≤ u ∧ u ≤ 1) ∧ (0 ≤ i ∧ i ≤ manyV m N4 a - 1) from ⟨w, w2⟩), e1.1, e1.2]
      by_cases w3 : u = 0
      · rw [if_pos w3, w3]
      · rw [if_neg w3, show u = 1 by omega]
    · rw [if_neg (show ¬ ((0 ≤ i ∧ i < manyV m N4 a) ∧ (u = 0 ∨ u = 1)) from fun z => w2 ⟨by omega, by omega⟩), if_neg (fun z => w2 z.2)]
  · rw [if_neg (show ¬ (a = -1 ∨ inW c 2 10 a) from fun z => w (z.elim Or.inl (fun z => Or.inr ⟨by omega, by omega⟩))), if_neg (show ¬ ((0 ≤ i ∧ i < (-1 : Int)) ∧ (u = 0 ∨ u = 1)) from fun z => absurd z.1 (by omega)), if_neg (fun z => w z.1)]

set_option maxHeartbeats 4000000 in
set_option maxRecDepth 100000 in
theorem two_ready {sg : Bool} {G : mG} {l : Launch} (hG : G.2.map Prod.snd = mTy) {x y n0 : Nat} {h : mH} (hn0 : n0 ≤ 600) (hI : RI sg x y n0 h) {a : Int} (ha : InR a) : TWO sg G l x y n0 false mX10_ready mX11_ready [.int (J a)] h := by
  obtain ⟨f4, m, kpm, pool, zt, ft, f18, pap, rwd, rw, hCH, hMH, hSO, hSZ⟩ := hI
  obtain ⟨S, kp, tk, zr, fr, p, e, o, zs, fs, b, fa, c, C, nm, g, hK, ⟨hT, hst, hke, htk⟩, hro, hpa, hxy⟩ := id hCH
  obtain ⟨⟨hA, hPo⟩, hkp, hta, h18, hrw⟩ := id hSO
  obtain ⟨N, K, T, Z, F, hX⟩ := fx_of hT hA
  obtain ⟨⟨mN, cN, N90⟩, ⟨mK, cK, K1, K60⟩, ⟨mT, cT, T10⟩, ⟨cZ, Z150⟩, ⟨⟨c11, c12, c13⟩, F90, c4⟩, ⟨hO, hpR, hpO, hoO⟩, ⟨c8, c9, L0, L90⟩, ⟨hc, hC⟩, hst2, htp⟩ := id hX
  obtain ⟨⟨hInv, hsc, hnc, hns⟩, hTk, hm7, hm8⟩ := id hA
  have hok := hInv.1
  have hM := hok.1
  have hCR := hT.1
  have hcT := hCR.2.1
  have hcS := hCR.2.2.1
  have hcK := hCR.2.2.2.1
  have hcL := hCR.2.2.2.2.1
  have hst3 : ∀ t : Nat, (t : Int) < m 1 → 0 ≤ m (258 + 14 * t) ∧ m (258 + 14 * t) ≤ 2 := fun t ht => (hst2 t ht).1
  refine TWO.ask (z := .int (J (readyV m T a))) (Nat.le_of_ble_eq_true rfl) (Nat.le_of_ble_eq_true rfl) ⟨_, rfl⟩ hCH hMH hSO hSZ ((kg_ready 0 hK hc hC cT T10 ha).mono (fun v h' q0 => ⟨q0.1.trans ?_, q0.2⟩)) (fun h1 f8 f9 f10 f11 f12 f13 f14 f16 was pln s r14 r11 hB => m_ready 0 hB hM mT T10 htp ha)
  congr 3
  unfold readyV
  by_cases w : a < 0
  · rw [if_pos w, if_pos w]
  · rw [if_neg w, if_neg w]
    exact rp_eq hcK hT.2 mT T 0 (by omega)

set_option maxHeartbeats 4000000 in
set_option maxRecDepth 100000 in
theorem two_told {G : mG} {l : Launch} (hG : G.2.map Prod.snd = mTy) {x y n0 : Nat} {h : mH} (hn0 : n0 ≤ 600) (hI : RI true x y n0 h) {a : Int} (ha : InR a) : TWO true G l x y n0 false mX10_told mX11_told [.int (J a)] h := by
  obtain ⟨f4, m, kpm, pool, zt, ft, f18, pap, rwd, rw, hCH, hMH, hSO, hSZ⟩ := hI
  obtain ⟨S, kp, tk, zr, fr, p, e, o, zs, fs, b, fa, c, C, nm, g, hK, ⟨hT, hst, hke, htk⟩, hro, hpa, hxy⟩ := id hCH
  obtain ⟨⟨hA, hPo⟩, hkp, hta, h18, hrw⟩ := id hSO
  obtain ⟨N, K, T, Z, F, hX⟩ := fx_of hT hA
  obtain ⟨⟨mN, cN, N90⟩, ⟨mK, cK, K1, K60⟩, ⟨mT, cT, T10⟩, ⟨cZ, Z150⟩, ⟨⟨c11, c12, c13⟩, F90, c4⟩, ⟨hO, hpR, hpO, hoO⟩, ⟨c8, c9, L0, L90⟩, ⟨hc, hC⟩, hst2, htp⟩ := id hX
  obtain ⟨⟨hInv, hsc, hnc, hns⟩, hTk, hm7, hm8⟩ := id hA
  have hok := hInv.1
  have hM := hok.1
  have hCR := hT.1
  have hcT := hCR.2.1
  have hcS := hCR.2.2.1
  have hcK := hCR.2.2.2.1
  have hcL := hCR.2.2.2.2.1
  have hst3 : ∀ t : Nat, (t : Int) < m 1 → 0 ≤ m (258 + 14 * t) ∧ m (258 + 14 * t) ≤ 2 := fun t ht => (hst2 t ht).1
  refine TWO.ask (z := .int (J (toldV m zt f18 N K T a))) (Nat.le_of_ble_eq_true rfl) (Nat.le_of_ble_eq_true rfl) ⟨_, rfl⟩ hCH hMH hSO hSZ ((kg_told 0 hK hc hC hO cN N90 cT T10 cK K60 ha).mono (fun v h' q0 => ⟨q0.1.trans ?_, q0.2⟩)) (fun h1 f8 f9 f10 f11 f12 f13 f14 f16 was pln s r14 r11 hB => m_told 0 hB hM mN N90 mK K60 mT T10 ha)
  congr 3
  unfold toldV
  have e1 : cnt (opW c) K = cnt (openB m) K := cnt_congr K (fun q hq => by
    have s1 := (hcS q (by omega)).1
    have s4 := hsc.2.2 q (by omega)
    unfold opW openB
    rw [s1]
    exact decide_eq_decide.mpr (swT_0 s4.1))
  have e2 : cnt (hwB c 0) N = cnt (heldB m) N := cnt_congr N (fun q hq => by
    have s1 := hw_eq hpR hcT (i := 0) (by decide) mK K60 (fun t ht => ⟨hst3 t ht, (hst2 t ht).2.2⟩) (t := q) (by omega)
    rw [s1]
    unfold heldInB belowB
    have s2 := hst2 q (by omega)
    have s3 := (wi_up hpR (o := 0) (by decide) 60 K (m (259 + 14 * q)) (by omega) (by omega) (by omega)).mp (wi_0 hpR 60 _ (by omega) (by omega) (by omega) (fun a h1 h2 => ((hsc.2.2 a h2).2 h1).1.1))
    rw [s3, decide_eq_true rfl, Bool.and_true])
  rw [e1, e2, ry_eq hcK mT, cK, cN, cT, mK, mN, mT, hT.2.1, c9, (hpa.2 rfl).1]
end mg_g2
section mg_g3
/-! ===== calls that change a little, on both ===== -/
section G3
variable {sg : Bool} {x y n : Nat} {h h1 : mH} {f4 : Int} {m kpm pool : Nat → Int} {zt : Int} {ft : Nat → Int} {f18 : Int} {pap rwd rw : Nat → Int}
theorem CP.of {S : Nat → Option mO} {kp tk : Option Nat} {zr : Nat → Int} {fr : Nat → Nat → Int} {p e o zs : Int} {fs : Nat → Int} {b : Int} {fa c : Nat → Int} {C : Nat → Nat → Int} {nm : Nat → Int64} {g : Nat → Option Nat} (hxy : x + 196 ≤ y ∧ y + 10 ≤ h.2.1) (hS : Same (kBlk x) h h1) (hK : isK h1 x kp tk zr fr p e o zt ft zs fs b 0 fa c C nm g) (hT : CTR m pool S c C nm g) (hst : stR y h S) (hke : keR y h S kp f4 kpm pool) (htk : tkR y h S kp tk) (hro : roR zr fr rwd rw) (hpa : paR sg zs fs f18 pap) : CP sg x y f4 m kpm pool zt ft f18 pap rwd rw h h1 := by
  have e1 := hS.2.1
  have e2 := hS.2.2.1
  exact ⟨⟨S, kp, tk, zr, fr, p, e, o, zs, fs, b, fa, c, C, nm, g, hK, ⟨hT, hst.kp (Old.of hS) (fun b hb => Or.inl (by unfold kBlk at hb; omega)), hke.kp (Old.of hS) (fun b w e hb => by have := hke.lo e; unfold wBlk at hb; unfold kBlk; omega), htk.kp (Old.of hS) (fun b r e hb => by have := htk.lo e; unfold rBlk at hb; unfold kBlk; omega)⟩, hro, hpa, by omega, by omega⟩, ⟨hS.1, fun b hb => hS.2.2.2 b (by unfold mBlk at hb; unfold kBlk; omega)⟩, by omega, by omega⟩
theorem SO.mm {m' : Nat → Int} (k : SO n f4 m kpm pool zt ft f18 rwd rw) (hA : All m' pool (12000 * (n + 1 : Nat)) (100 * (n + 1 : Nat))) (h8 : m' 8 = m 8) : SO (n + 1) f4 m' kpm pool zt ft f18 rwd rw := by
  obtain ⟨⟨u1, u2⟩, ⟨u3, u4⟩, u5⟩ := k.up
  exact ⟨⟨hA, u2⟩, ⟨u3, fun e => ⟨(u4 e).1, by rw [h8]; exact (u4 e).2⟩⟩, u5⟩
theorem SO.rows {rwd' rw' : Nat → Int} (k : SO n f4 m kpm pool zt ft f18 rwd rw) (hr : (∀ q, InR (rwd' q) ∧ rwd' q ≤ 40) ∧ ∀ q, InR (rw' q)) : SO (n + 1) f4 m kpm pool zt ft f18 rwd' rw' := by
  obtain ⟨u1, u2, u3, u4, -⟩ := k.up
  exact ⟨u1, u2, u3, u4, hr⟩
theorem SO.tape {zt' : Int} {ft' : Nat → Int} (k : SO n f4 m kpm pool zt ft f18 rwd rw) (ht : (0 ≤ zt' ∧ zt' ≤ 120) ∧ bytesOk ft' ∧ ∀ j : Nat, (j : Int) < zt' → 1 ≤ ft' j) : SO (n + 1) f4 m kpm pool zt' ft' f18 rwd rw := by
  obtain ⟨u1, u2, -, u4, u5⟩ := k.up
  exact ⟨u1, u2, ht, u4, u5⟩
theorem roR.put {zr : Nat → Int} {fr : Nat → Nat → Int} {rwd' rw' : Nat → Int} {a : Nat} {z : Int} {f : Nat → Int} (k : roR zr fr rwd rw) (hz : InR z ∧ z ≤ 40) (hf : ∀ q, InR (f q)) (h0 : ∀ q, ¬ q = a → q < 4 → rwd' q = rwd q ∧ ∀ j : Nat, j < 40 → rw' (40 * q + j) = rw (40 * q + j)) (ha : (z = -11 ∧ rwd' a = -1) ∨ (0 ≤ z ∧ z = rwd' a ∧ ∀ j : Nat, (j : Int) < z → f j = rw' (40 * a + j))) : roR (updI zr a z) (updC fr a f) rwd' rw' := by
  refine ⟨⟨fun q => ?_, fun j q => ?_⟩, fun q hq => ?_⟩
  · unfold updI; split
    · exact hz
    · exact k.1.1 q
  · unfold updC; split
    · exact hf q
    · exact k.1.2 j q
  · by_cases e : q = a
    · subst e; rw [updI_s, updC_s]; exact ha
    · rw [updI_n e, updC_n e, (h0 q e hq).1]
      rcases k.2 q hq with r | ⟨r1, r2, r3⟩
      · exact Or.inl r
      · have := (k.1.1 q).2
        exact Or.inr ⟨r1, r2, fun j hj => (r3 j hj).trans ((h0 q e hq).2 j (by omega)).symm⟩
theorem inR_up {f : Nat → Int} (h : ∀ q, InR (f q)) {a : Nat} {v : Int} (hv : InR v) : ∀ q, InR (updI f a v q) := updI_r h hv
end G3
set_option maxHeartbeats 4000000 in
set_option maxRecDepth 100000 in
theorem two_clear {sg : Bool} {G : mG} {l : Launch} (hG : G.2.map Prod.snd = mTy) {x y n0 : Nat} {h : mH} (hn0 : n0 ≤ 600) (hI : RI sg x y n0 h) : TWO sg G l x y n0 false mX10_clear mX11_clear [] h := by
  obtain ⟨f4, m, kpm, pool, zt, ft, f18, pap, rwd, rw, hCH, hMH, hSO, hSZ⟩ := hI
  obtain ⟨S, kp, tk, zr, fr, p, e, o, zs, fs, b, fa, c, C, nm, g, hK, ⟨hT, hst, hke, htk⟩, hro, hpa, hxy⟩ := id hCH
  obtain ⟨⟨hA, hPo⟩, hkp, hta, h18, hrw⟩ := id hSO
  obtain ⟨N, K, T, Z, F, hX⟩ := fx_of hT hA
  obtain ⟨⟨mN, cN, N90⟩, ⟨mK, cK, K1, K60⟩, ⟨mT, cT, T10⟩, ⟨cZ, Z150⟩, ⟨⟨c11, c12, c13⟩, F90, c4⟩, ⟨hO, hpR, hpO, hoO⟩, ⟨c8, c9, L0, L90⟩, ⟨hc, hC⟩, hst2, htp⟩ := id hX
  obtain ⟨⟨hInv, hsc, hnc, hns⟩, hTk, hm7, hm8⟩ := id hA
  have hok := hInv.1
  have hM := hok.1
  have hCR := hT.1
  have hcT := hCR.2.1
  have hcS := hCR.2.2.1
  have hcK := hCR.2.2.2.1
  have hcL := hCR.2.2.2.2.1
  have hst3 : ∀ t : Nat, (t : Int) < m 1 → 0 ≤ m (258 + 14 * t) ∧ m (258 + 14 * t) ≤ 2 := fun t ht => (hst2 t ht).1

  refine TWO.of (dm := 1000) (z := .int (J (zt))) (f4' := f4) (m' := m) (kpm' := kpm) (pool' := pool) (zt' := 0) (ft' := ft) (f18' := f18) (pap' := pap) (rwd' := rwd) (rw' := rw) (Nat.le_of_ble_eq_true rfl) (Nat.le_of_ble_eq_true rfl) ⟨_, rfl⟩ hSZ hMH ((kg_clear 0 hK hc hC).mono (fun v h' q0 => ?_)) (fun h1 hM1 => ?_) ?_
  · obtain ⟨q1, q2, q3⟩ := q0
    exact ⟨q1, CP.of hxy q3 q2 hT hst hke htk hro hpa⟩
  · obtain ⟨f14, f16, was, pln, r14, f8, f9, f10, f11, f12, f13, s, r11, hB⟩ := id hM1
    refine ((m_clear 0 hB).deeper (Nat.le_of_ble_eq_true rfl)).mono (fun v h2 q0 => ?_)
    obtain ⟨q1, q2, q3⟩ := q0
    exact ⟨q1, ⟨f14, f16, was, pln, r14, q2.isMs r11⟩, q3⟩
  · exact hSO.tape ⟨⟨by omega, by omega⟩, hta.2.1, fun j hj => by omega⟩
set_option maxHeartbeats 4000000 in
set_option maxRecDepth 100000 in
theorem two_feed {sg : Bool} {G : mG} {l : Launch} (hG : G.2.map Prod.snd = mTy) {x y n0 : Nat} {h : mH} (hn0 : n0 ≤ 600) (hI : RI sg x y n0 h) {a : Int} (ha : InR a) : TWO sg G l x y n0 false mX10_feed mX11_feed [.int (J a)] h := by
  obtain ⟨f4, m, kpm, pool, zt, ft, f18, pap, rwd, rw, hCH, hMH, hSO, hSZ⟩ := hI
  obtain ⟨S, kp, tk, zr, fr, p, e, o, zs, fs, b, fa, c, C, nm, g, hK, ⟨hT, hst, hke, htk⟩, hro, hpa, hxy⟩ := id hCH
  obtain ⟨⟨hA, hPo⟩, hkp, hta, h18, hrw⟩ := id hSO
  obtain ⟨N, K, T, Z, F, hX⟩ := fx_of hT hA
  obtain ⟨⟨mN, cN, N90⟩, ⟨mK, cK, K1, K60⟩, ⟨mT, cT, T10⟩, ⟨cZ, Z150⟩, ⟨⟨c11, c12, c13⟩, F90, c4⟩, ⟨hO, hpR, hpO, hoO⟩, ⟨c8, c9, L0, L90⟩, ⟨hc, hC⟩, hst2, htp⟩ := id hX
  obtain ⟨⟨hInv, hsc, hnc, hns⟩, hTk, hm7, hm8⟩ := id hA
  have hok := hInv.1
  have hM := hok.1
  have hCR := hT.1
  have hcT := hCR.2.1
  have hcS := hCR.2.2.1
  have hcK := hCR.2.2.2.1
  have hcL := hCR.2.2.2.2.1
  have hst3 : ∀ t : Nat, (t : Int) < m 1 → 0 ≤ m (258 + 14 * t) ∧ m (258 + 14 * t) ≤ 2 := fun t ht => (hst2 t ht).1
  have rzt : InR zt := ⟨by omega, by omega⟩
  by_cases w : 1 ≤ a ∧ a ≤ 127
  · by_cases w2 : zt = 120
    · have ev : feedV zt a = -4 := by unfold feedV; rw [if_pos w, if_pos w2]
      refine TWO.of (dm := 1000) (z := .int (J (-4))) (f4' := f4) (m' := m) (kpm' := kpm) (pool' := pool) (zt' := zt) (ft' := ft) (f18' := f18) (pap' := pap) (rwd' := rwd) (rw' := rw) (Nat.le_of_ble_eq_true rfl) (Nat.le_of_ble_eq_true rfl) ⟨_, rfl⟩ hSZ hMH ((kg_feed 0 hK hc hC ha rzt).mono (fun v h' q0 => ?_)) (fun h1 hM1 => ?_) ?_
      · rcases q0 with ⟨q1, -⟩ | ⟨-, q1, q2, q3⟩
        · exact absurd w q1
        · rw [if_neg (by omega)] at q1 q2
          rw [if_neg (by omega)] at q2
          exact ⟨q1, CP.of hxy q3 q2 hT hst hke htk hro hpa⟩
      · obtain ⟨f14, f16, was, pln, r14, f8, f9, f10, f11, f12, f13, s, r11, hB⟩ := id hM1
        refine ((m_feed 0 hB ha hta.1.1 hta.1.2).deeper (Nat.le_of_ble_eq_true rfl)).mono (fun v h2 q0 => ?_)
        rw [ev] at q0
        rcases q0 with ⟨q1, ⟨-, rfl⟩ | ⟨q2, -⟩⟩
        · exact ⟨q1, hM1, Same.refl⟩
        · exact absurd w2 q2.2
      · exact hSO.up
    · have ev : feedV zt a = zt + 1 := by unfold feedV; rw [if_pos w, if_neg w2]
      refine TWO.of (dm := 1000) (z := .int (J (zt + 1))) (f4' := f4) (m' := m) (kpm' := kpm) (pool' := pool) (zt' := zt + 1) (ft' := updI ft zt.toNat a) (f18' := f18) (pap' := pap) (rwd' := rwd) (rw' := rw) (Nat.le_of_ble_eq_true rfl) (Nat.le_of_ble_eq_true rfl) ⟨_, rfl⟩ hSZ hMH ((kg_feed 0 hK hc hC ha rzt).mono (fun v h' q0 => ?_)) (fun h1 hM1 => ?_) ?_
      · rcases q0 with ⟨q1, -⟩ | ⟨-, q1, q2, q3⟩
        · exact absurd w q1
        · rw [if_pos (by omega)] at q1 q2
          rw [if_pos (by omega)] at q2
          exact ⟨q1, CP.of hxy q3 q2 hT hst hke htk hro hpa⟩
      · obtain ⟨f14, f16, was, pln, r14, f8, f9, f10, f11, f12, f13, s, r11, hB⟩ := id hM1
        refine ((m_feed 0 hB ha hta.1.1 hta.1.2).deeper (Nat.le_of_ble_eq_true rfl)).mono (fun v h2 q0 => ?_)
        rw [ev] at q0
        rcases q0 with ⟨q1, ⟨q2, -⟩ | ⟨-, q2, q3⟩⟩
        · exact absurd ⟨w, w2⟩ q2
        · exact ⟨q1, ⟨f14, f16, was, pln, r14, q2.isMs r11⟩, q3⟩
      · refine hSO.tape ⟨⟨by omega, by omega⟩, fun j => ?_, fun j hj => ?_⟩
        · unfold updI; split
          · omega
          · exact hta.2.1 j
        · by_cases e : j = zt.toNat
          · rw [e, updI_s]; omega
          · rw [updI_n e]; exact hta.2.2 j (by omega)
  · have ev : feedV zt a = -2 := by unfold feedV; rw [if_neg w]
    refine TWO.ask (z := .int (J (-2))) (Nat.le_of_ble_eq_true rfl) (Nat.le_of_ble_eq_true rfl) ⟨_, rfl⟩ hCH hMH hSO hSZ ((kg_feed 0 hK hc hC ha rzt).mono (fun v h' q0 => ?_)) (fun h1 f8 f9 f10 f11 f12 f13 f14 f16 was pln s r14 r11 hB => (m_feed 0 hB ha hta.1.1 hta.1.2).mono (fun v h2 q0 => ?_))
    · rcases q0 with ⟨-, q1, q2⟩ | ⟨q1, -⟩
      · exact ⟨q1, q2⟩
      · exact absurd q1 w
    · rw [ev] at q0
      rcases q0 with ⟨q1, ⟨-, q2⟩ | ⟨q2, -⟩⟩
      · exact ⟨q1, q2⟩
      · exact absurd q2.1 w
set_option maxHeartbeats 4000000 in
set_option maxRecDepth 100000 in
theorem two_open {sg : Bool} {G : mG} {l : Launch} (hG : G.2.map Prod.snd = mTy) {x y n0 : Nat} {h : mH} (hn0 : n0 ≤ 600) (hI : RI sg x y n0 h) {a : Int} (ha : InR a) : TWO sg G l x y n0 false mX10_open mX11_open [.int (J a)] h := by
  obtain ⟨f4, m, kpm, pool, zt, ft, f18, pap, rwd, rw, hCH, hMH, hSO, hSZ⟩ := hI
  obtain ⟨S, kp, tk, zr, fr, p, e, o, zs, fs, b, fa, c, C, nm, g, hK, ⟨hT, hst, hke, htk⟩, hro, hpa, hxy⟩ := id hCH
  obtain ⟨⟨hA, hPo⟩, hkp, hta, h18, hrw⟩ := id hSO
  obtain ⟨N, K, T, Z, F, hX⟩ := fx_of hT hA
  obtain ⟨⟨mN, cN, N90⟩, ⟨mK, cK, K1, K60⟩, ⟨mT, cT, T10⟩, ⟨cZ, Z150⟩, ⟨⟨c11, c12, c13⟩, F90, c4⟩, ⟨hO, hpR, hpO, hoO⟩, ⟨c8, c9, L0, L90⟩, ⟨hc, hC⟩, hst2, htp⟩ := id hX
  obtain ⟨⟨hInv, hsc, hnc, hns⟩, hTk, hm7, hm8⟩ := id hA
  have hok := hInv.1
  have hM := hok.1
  have hCR := hT.1
  have hcT := hCR.2.1
  have hcS := hCR.2.2.1
  have hcK := hCR.2.2.2.1
  have hcL := hCR.2.2.2.2.1
  have hst3 : ∀ t : Nat, (t : Int) < m 1 → 0 ≤ m (258 + 14 * t) ∧ m (258 + 14 * t) ≤ 2 := fun t ht => (hst2 t ht).1
  by_cases w : 0 ≤ a ∧ a ≤ m 0 - 1
  · skip
    obtain ⟨q, rfl⟩ : ∃ q : Nat, a = q := ⟨a.toNat, by omega⟩
    have e18 : ((18 : Int) + 4 * (q : Int)).toNat = 18 + 4 * q := by omega
    have eq : ((q : Int)).toNat = q := by omega
    have s0 : c (304 + 3 * q) = 0 ↔ m (18 + 4 * q) = 0 := by rw [(hcS q (by omega)).1]; exact swT_0 (hsc.2.2 q (by omega)).1
    have hop : openP m (q : Int) ↔ m (18 + 4 * q) = 0 := ⟨fun z => by have := z.2.2; rwa [e18] at this, fun z => ⟨w.1, w.2, by rw [e18]; exact z⟩⟩
    by_cases w2 : m (18 + 4 * q) = 0
    · have w4 := s0.mpr w2
      by_cases w3 : K = 60
      · have ev : openV m q = -4 := by unfold openV; rw [if_pos w, if_pos (hop.mpr w2), if_pos (by omega)]
        refine TWO.ask (z := .int (J (-4))) (Nat.le_of_ble_eq_true rfl) (Nat.le_of_ble_eq_true rfl) ⟨_, rfl⟩ hCH hMH hSO hSZ ((kg_open 0 hK hc hC ha cK cZ Z150).mono (fun v h' q0 => ?_)) (fun h1 f8 f9 f10 f11 f12 f13 f14 f16 was pln s r14 r11 hB => (m_open 0 hB hM mK K60 ha).mono (fun v h2 q0 => ?_))
        · rw [eq] at q0
          rcases q0 with q0 | q0 | q0 | q0
          all_goals first | (exfalso; omega) | exact ⟨q0.2.1, q0.2.2⟩ | exact ⟨q0.2.2.1, q0.2.2.2⟩
        · rw [ev] at q0
          rcases q0 with ⟨q1, q2 | q2⟩
          · exact ⟨q1, q2.2⟩
          · exact absurd q2.1 (by decide)
      · have ev : openV m q = K := by unfold openV; rw [if_pos w, if_pos (hop.mpr w2), if_neg (by omega), mK]
        refine TWO.of (dm := 1000) (z := .int (J ((K : Int)))) (f4' := f4) (m' := opensM m K q (-5)) (kpm' := kpm) (pool' := pool) (zt' := zt) (ft' := ft) (f18' := f18) (pap' := pap) (rwd' := rwd) (rw' := rw) (Nat.le_of_ble_eq_true rfl) (Nat.le_of_ble_eq_true rfl) ⟨_, rfl⟩ hSZ hMH ((kg_open 0 hK hc hC ha cK cZ Z150).mono (fun v h' q0 => ?_)) (fun h1 hM1 => ?_) ?_
        · rw [eq] at q0
          rcases q0 with q0 | q0 | q0 | ⟨-, -, q1, q2, q3⟩
          · exfalso; omega
          · exfalso; omega
          · exfalso; omega
          · exact ⟨q1, CP.of hxy q3 q2 (ctr_open hT hTk hok mK (by omega) K1 (by omega) (by decide) cZ) hst hke htk hro hpa⟩
        · obtain ⟨f14, f16, was, pln, r14, f8, f9, f10, f11, f12, f13, s, r11, hB⟩ := id hM1
          refine ((m_open 0 hB hM mK K60 ha).deeper (Nat.le_of_ble_eq_true rfl)).mono (fun v h2 q0 => ?_)
          rw [ev] at q0
          rcases q0 with ⟨q1, ⟨q2, -⟩ | ⟨-, -, q2, q3⟩⟩
          · omega
          · exact ⟨q1, ⟨f14, f16, was, pln, r14, q2.isMs r11⟩, q3⟩
        · refine hSO.mm ((hA.opens mK (by omega) (by omega) w2 (by decide) (by omega)).up (by omega) (by omega)) ?_
          unfold opensM
          (repeat rw [updI_n (by omega)])
    · have w4 : ¬ c (304 + 3 * q) = 0 := fun z => w2 (s0.mp z)
      have ev : openV m q = -3 := by unfold openV; rw [if_pos w, if_neg (fun z => w2 (hop.mp z))]
      refine TWO.ask (z := .int (J (-3))) (Nat.le_of_ble_eq_true rfl) (Nat.le_of_ble_eq_true rfl) ⟨_, rfl⟩ hCH hMH hSO hSZ ((kg_open 0 hK hc hC ha cK cZ Z150).mono (fun v h' q0 => ?_)) (fun h1 f8 f9 f10 f11 f12 f13 f14 f16 was pln s r14 r11 hB => (m_open 0 hB hM mK K60 ha).mono (fun v h2 q0 => ?_))
      · rw [eq] at q0
        rcases q0 with q0 | q0 | q0 | q0
        all_goals first | (exfalso; omega) | exact ⟨q0.2.1, q0.2.2⟩ | exact ⟨q0.2.2.1, q0.2.2.2⟩
      · rw [ev] at q0
        rcases q0 with ⟨q1, q2 | q2⟩
        · exact ⟨q1, q2.2⟩
        · exact absurd q2.1 (by decide)
  · have ev : openV m a = -1 := by unfold openV; rw [if_neg w]
    refine TWO.ask (z := .int (J (-1))) (Nat.le_of_ble_eq_true rfl) (Nat.le_of_ble_eq_true rfl) ⟨_, rfl⟩ hCH hMH hSO hSZ ((kg_open 0 hK hc hC ha cK cZ Z150).mono (fun v h' q0 => ?_)) (fun h1 f8 f9 f10 f11 f12 f13 f14 f16 was pln s r14 r11 hB => (m_open 0 hB hM mK K60 ha).mono (fun v h2 q0 => ?_))
    · rcases q0 with q0 | q0 | q0 | q0
      all_goals first | (exfalso; omega) | exact ⟨q0.2.1, q0.2.2⟩ | exact ⟨q0.2.2.1, q0.2.2.2⟩
    · rw [ev] at q0
      rcases q0 with ⟨q1, q2 | q2⟩
      · exact ⟨q1, q2.2⟩
      · exact absurd q2.1 (by decide)
end mg_g3
section mg_g4
/-! ===== calls that change a little, on both, more ===== -/
theorem isW.jC {h : mH} {w : Nat} {c : Nat → Int} {C : Nat → Nat → Int} {nm : Nat → Int64} {g : Nat → Option Nat} {f f' : Nat → Int} (k : isW h w c (updC C 0 f) nm g) (e : ∀ q, J (f q) = J (f' q)) : isW h w c (updC C 0 f') nm g := by
  obtain ⟨k0, k1, k2, k3, k4, k5, k6, k7, k8, k9⟩ := k
  refine ⟨k0, k1, k2, k3, k4, k5, fun j hj => ?_, k7, k8, k9⟩
  by_cases z : j = 0
  · subst z
    have y := k6 0 hj
    rw [updC_s] at y ⊢
    obtain ⟨y1, y2, y3⟩ := y
    refine ⟨y1, y2, ?_⟩
    rw [y3]
    congr 3
    exact congrArg (Prod.mk (iRm 0)) (funext e)
  · have y := k6 j hj
    rw [updC_n z] at y ⊢
    exact y
set_option maxHeartbeats 4000000 in
set_option maxRecDepth 100000 in
theorem two_count {sg : Bool} {G : mG} {l : Launch} (hG : G.2.map Prod.snd = mTy) {x y n0 : Nat} {h : mH} (hn0 : n0 ≤ 600) (hI : RI sg x y n0 h) {a : Int} (ha : InR a) {i : Int} (hi : InR i) : TWO sg G l x y n0 false mX10_count mX11_count [.int (J a), .int (J i)] h := by
  obtain ⟨f4, m, kpm, pool, zt, ft, f18, pap, rwd, rw, hCH, hMH, hSO, hSZ⟩ := hI
  obtain ⟨S, kp, tk, zr, fr, p, e, o, zs, fs, b, fa, c, C, nm, g, hK, ⟨hT, hst, hke, htk⟩, hro, hpa, hxy⟩ := id hCH
  obtain ⟨⟨hA, hPo⟩, hkp, hta, h18, hrw⟩ := id hSO
  obtain ⟨N, K, T, Z, F, hX⟩ := fx_of hT hA
  obtain ⟨⟨mN, cN, N90⟩, ⟨mK, cK, K1, K60⟩, ⟨mT, cT, T10⟩, ⟨cZ, Z150⟩, ⟨⟨c11, c12, c13⟩, F90, c4⟩, ⟨hO, hpR, hpO, hoO⟩, ⟨c8, c9, L0, L90⟩, ⟨hc, hC⟩, hst2, htp⟩ := id hX
  obtain ⟨⟨hInv, hsc, hnc, hns⟩, hTk, hm7, hm8⟩ := id hA
  have hok := hInv.1
  have hM := hok.1
  have hCR := hT.1
  have hcT := hCR.2.1
  have hcS := hCR.2.2.1
  have hcK := hCR.2.2.2.1
  have hcL := hCR.2.2.2.2.1
  have hst3 : ∀ t : Nat, (t : Int) < m 1 → 0 ≤ m (258 + 14 * t) ∧ m (258 + 14 * t) ≤ 2 := fun t ht => (hst2 t ht).1
  by_cases w : 0 ≤ a ∧ a ≤ 7
  · obtain ⟨q, rfl⟩ : ∃ q : Nat, a = q := ⟨a.toNat, by omega⟩
    have e10 : ((10 : Int) + (q : Int)).toNat = 10 + q := by omega
    have e0 : atF 8 (c 8) (C 0) (q : Int) = m (10 + q) := by
      unfold atF; rw [if_pos ⟨by omega, by omega, by omega⟩, show ((q : Int)).toNat = q by omega]; exact hcL.1 q (by omega)
    have e1 : putF 8 (c 8) (C 0) (q : Int) (m (10 + q) + i) = updI (C 0) q (m (10 + q) + i) := by
      unfold putF; rw [if_pos ⟨by omega, by omega, by omega⟩, show ((q : Int)).toNat = q by omega]
    have e2 : atF 8 (c 8) (updI (C 0) q (m (10 + q) + i)) (q : Int) = m (10 + q) + i := by
      unfold atF; rw [if_pos ⟨by omega, by omega, by omega⟩, show ((q : Int)).toNat = q by omega, updI_s]
    have ev : countV m q i = wrap (m (10 + q) + i) := by unfold countV; rw [if_pos w, e10]
    refine TWO.of (dm := 1000) (z := .int (J (m (10 + q) + i))) (f4' := f4) (m' := updI m (10 + q) (wrap (m (10 + q) + i))) (kpm' := kpm) (pool' := pool) (zt' := zt) (ft' := ft) (f18' := f18) (pap' := pap) (rwd' := rwd) (rw' := rw) (Nat.le_of_ble_eq_true rfl) (Nat.le_of_ble_eq_true rfl) ⟨_, rfl⟩ hSZ hMH ((kg_count 0 hK hc hC ha hi c8).mono (fun v h' q0 => ?_)) (fun h1 hM1 => ?_) ?_
    · rcases q0 with q0 | ⟨-, q1, q2, q3⟩
      · exfalso; omega
      · rw [e0, e1] at q1 q2
        rw [e2] at q1
        rw [show (8 : Nat) + 0 = 8 from rfl, updI_id] at q2
        have W2 := isW.jC (f' := updI (C 0) q (wrap (m (10 + q) + i))) q2.w (fun j => by
          unfold updI; split
          · exact J_wrap _
          · rfl)
        exact ⟨q1, CP.of hxy q3 (q2.ofW Same.refl W2) (ctr_count hT hTk hok (by omega) (wrap_r _)) hst hke htk hro hpa⟩
    · obtain ⟨f14, f16, was, pln, r14, f8, f9, f10, f11, f12, f13, s, r11, hB⟩ := id hM1
      refine ((m_count 0 hB ha).deeper (Nat.le_of_ble_eq_true rfl)).mono (fun v h2 q0 => ?_)
      rw [ev, e10, ← J_wrap] at q0
      rcases q0 with ⟨q1, q2 | ⟨-, q2, q3⟩⟩
      · exfalso; omega
      · exact ⟨q1, ⟨f14, f16, was, pln, r14, q2.isMs r11⟩, q3⟩
    · exact hSO.mm ((hA.low (k := 10 + q) (wrap_r _) (Or.inl ⟨by omega, by omega⟩)).up (by omega) (by omega)) (updI_n (by omega))
  · have ev : countV m a i = -1 := by unfold countV; rw [if_neg w]
    refine TWO.ask (z := .int (J (-1))) (Nat.le_of_ble_eq_true rfl) (Nat.le_of_ble_eq_true rfl) ⟨_, rfl⟩ hCH hMH hSO hSZ ((kg_count 0 hK hc hC ha hi c8).mono (fun v h' q0 => ?_)) (fun h1 f8 f9 f10 f11 f12 f13 f14 f16 was pln s r14 r11 hB => (m_count 0 hB ha).mono (fun v h2 q0 => ?_))
    · rcases q0 with q0 | q0
      all_goals first | (exfalso; omega) | exact ⟨q0.2.1, q0.2.2⟩ | exact ⟨q0.2.2.1, q0.2.2.2⟩
    · rw [ev] at q0
      rcases q0 with ⟨q1, q2 | q2⟩
      · exact ⟨q1, q2.2⟩
      · exact absurd q2.1 w
set_option maxHeartbeats 4000000 in
set_option maxRecDepth 100000 in
theorem two_cancel {sg : Bool} {G : mG} {l : Launch} (hG : G.2.map Prod.snd = mTy) {x y n0 : Nat} {h : mH} (hn0 : n0 ≤ 600) (hI : RI sg x y n0 h) {a : Int} (ha : InR a) : TWO sg G l x y n0 false mX10_cancel mX11_cancel [.int (J a)] h := by
  obtain ⟨f4, m, kpm, pool, zt, ft, f18, pap, rwd, rw, hCH, hMH, hSO, hSZ⟩ := hI
  obtain ⟨S, kp, tk, zr, fr, p, e, o, zs, fs, b, fa, c, C, nm, g, hK, ⟨hT, hst, hke, htk⟩, hro, hpa, hxy⟩ := id hCH
  obtain ⟨⟨hA, hPo⟩, hkp, hta, h18, hrw⟩ := id hSO
  obtain ⟨N, K, T, Z, F, hX⟩ := fx_of hT hA
  obtain ⟨⟨mN, cN, N90⟩, ⟨mK, cK, K1, K60⟩, ⟨mT, cT, T10⟩, ⟨cZ, Z150⟩, ⟨⟨c11, c12, c13⟩, F90, c4⟩, ⟨hO, hpR, hpO, hoO⟩, ⟨c8, c9, L0, L90⟩, ⟨hc, hC⟩, hst2, htp⟩ := id hX
  obtain ⟨⟨hInv, hsc, hnc, hns⟩, hTk, hm7, hm8⟩ := id hA
  have hok := hInv.1
  have hM := hok.1
  have hCR := hT.1
  have hcT := hCR.2.1
  have hcS := hCR.2.2.1
  have hcK := hCR.2.2.2.1
  have hcL := hCR.2.2.2.2.1
  have hst3 : ∀ t : Nat, (t : Int) < m 1 → 0 ≤ m (258 + 14 * t) ∧ m (258 + 14 * t) ≤ 2 := fun t ht => (hst2 t ht).1
  have h3 := hok.2.2.2.2.1
  by_cases w : 0 ≤ a ∧ a ≤ m 3 - 1
  · skip
    obtain ⟨q, rfl⟩ : ∃ q : Nat, a = q := ⟨a.toNat, by omega⟩
    have eq : ((q : Int)).toNat = q := by omega
    have e10 : ((1610 : Int) + 72 * (q : Int)).toNat = 1610 + 72 * q := by omega
    have e14 : ((1614 : Int) + 72 * (q : Int)).toNat = 1614 + 72 * q := by omega
    have e09 : ((1609 : Int) + 72 * (q : Int)).toNat = 1609 + 72 * q := by omega
    have tkq := (hTk.2 q (by omega)).1
    have k0 := hcK q (by omega)
    have k1 := (hT.2.2 q (by omega)).1
    by_cases w2 : m (1610 + 72 * q) = 0
    · have ev : cancelV m q = 1 - m (1614 + 72 * q) := by unfold cancelV; rw [if_pos w, e10, if_pos w2, e14]
      have cd : canDo m q := ⟨w, by rw [e10]; exact w2⟩
      have ec : (if c (496 + 9 * q) = 0 then (1 : Int) else 0) = 1 - m (1614 + 72 * q) := by
        rw [k0.2]
        rcases tkq.2.2.1 with z | z
        · rw [if_pos z, z]; decide
        · rw [if_neg (by omega), z]; decide
      refine TWO.of (dm := 1000) (z := .int (J (1 - m (1614 + 72 * q)))) (f4' := f4) (m' := updI m (1614 + 72 * q) 1) (kpm' := kpm) (pool' := pool) (zt' := zt) (ft' := ft) (f18' := f18) (pap' := pap) (rwd' := rwd) (rw' := rw) (Nat.le_of_ble_eq_true rfl) (Nat.le_of_ble_eq_true rfl) ⟨_, rfl⟩ hSZ hMH ((kg_cancel 0 hK hc hC ha).mono (fun v h' q0 => ?_)) (fun h1 hM1 => ?_) ?_
      · rw [eq] at q0
        rcases q0 with q0 | q0 | ⟨-, q1, q2, q3⟩
        · exfalso; omega
        · exfalso; omega
        · rw [ec] at q1
          exact ⟨q1, CP.of hxy q3 q2 (ctr_cancel hT hTk hok (by omega)) hst hke htk hro hpa⟩
      · obtain ⟨f14, f16, was, pln, r14, f8, f9, f10, f11, f12, f13, s, r11, hB⟩ := id hM1
        refine ((m_cancel 0 hB hM h3 ha).deeper (Nat.le_of_ble_eq_true rfl)).mono (fun v h2 q0 => ?_)
        rw [ev, e14] at q0
        rcases q0 with ⟨q1, ⟨q2, -⟩ | ⟨-, q2, q3⟩⟩
        · exact absurd cd q2
        · exact ⟨q1, ⟨f14, f16, was, pln, r14, q2.isMs r11⟩, q3⟩
      · exact hSO.mm ((hA.task (k := 1614 + 72 * q) (t := q) (v := 1) (by decide) (by omega) (Or.inl ⟨rfl, rfl⟩)).up (by omega) (by omega)) (updI_n (by omega))
    · have ev : cancelV m q = -3 := by unfold cancelV; rw [if_pos w, e10, if_neg w2]
      have cd : ¬ canDo m q := fun z => w2 (by have := z.2; rwa [e10] at this)
      refine TWO.ask (z := .int (J (-3))) (Nat.le_of_ble_eq_true rfl) (Nat.le_of_ble_eq_true rfl) ⟨_, rfl⟩ hCH hMH hSO hSZ ((kg_cancel 0 hK hc hC ha).mono (fun v h' q0 => ?_)) (fun h1 f8 f9 f10 f11 f12 f13 f14 f16 was pln s r14 r11 hB => (m_cancel 0 hB hM h3 ha).mono (fun v h2 q0 => ?_))
      · rw [eq] at q0
        rcases q0 with q0 | q0 | q0
        all_goals first | (exfalso; omega) | exact ⟨q0.2.1, q0.2.2⟩ | exact ⟨q0.2.2.1, q0.2.2.2⟩
      · rw [ev] at q0
        rcases q0 with ⟨q1, q2 | q2⟩
        · exact ⟨q1, q2.2⟩
        · exact absurd q2.1 cd
  · have ev : cancelV m a = -1 := by unfold cancelV; rw [if_neg w]
    have cd : ¬ canDo m a := fun z => w z.1
    refine TWO.ask (z := .int (J (-1))) (Nat.le_of_ble_eq_true rfl) (Nat.le_of_ble_eq_true rfl) ⟨_, rfl⟩ hCH hMH hSO hSZ ((kg_cancel 0 hK hc hC ha).mono (fun v h' q0 => ?_)) (fun h1 f8 f9 f10 f11 f12 f13 f14 f16 was pln s r14 r11 hB => (m_cancel 0 hB hM h3 ha).mono (fun v h2 q0 => ?_))
    · rcases q0 with q0 | q0 | q0
      all_goals first | (exfalso; omega) | exact ⟨q0.2.1, q0.2.2⟩ | exact ⟨q0.2.2.1, q0.2.2.2⟩
    · rw [ev] at q0
      rcases q0 with ⟨q1, q2 | q2⟩
      · exact ⟨q1, q2.2⟩
      · exact absurd q2.1 cd
set_option maxHeartbeats 4000000 in
set_option maxRecDepth 100000 in
theorem two_rank {sg : Bool} {G : mG} {l : Launch} (hG : G.2.map Prod.snd = mTy) {x y n0 : Nat} {h : mH} (hn0 : n0 ≤ 600) (hI : RI sg x y n0 h) {a : Int} (ha : InR a) {i : Int} (hi : InR i) : TWO sg G l x y n0 false mX10_rank mX11_rank [.int (J a), .int (J i)] h := by
  obtain ⟨f4, m, kpm, pool, zt, ft, f18, pap, rwd, rw, hCH, hMH, hSO, hSZ⟩ := hI
  obtain ⟨S, kp, tk, zr, fr, p, e, o, zs, fs, b, fa, c, C, nm, g, hK, ⟨hT, hst, hke, htk⟩, hro, hpa, hxy⟩ := id hCH
  obtain ⟨⟨hA, hPo⟩, hkp, hta, h18, hrw⟩ := id hSO
  obtain ⟨N, K, T, Z, F, hX⟩ := fx_of hT hA
  obtain ⟨⟨mN, cN, N90⟩, ⟨mK, cK, K1, K60⟩, ⟨mT, cT, T10⟩, ⟨cZ, Z150⟩, ⟨⟨c11, c12, c13⟩, F90, c4⟩, ⟨hO, hpR, hpO, hoO⟩, ⟨c8, c9, L0, L90⟩, ⟨hc, hC⟩, hst2, htp⟩ := id hX
  obtain ⟨⟨hInv, hsc, hnc, hns⟩, hTk, hm7, hm8⟩ := id hA
  have hok := hInv.1
  have hM := hok.1
  have hCR := hT.1
  have hcT := hCR.2.1
  have hcS := hCR.2.2.1
  have hcK := hCR.2.2.2.1
  have hcL := hCR.2.2.2.2.1
  have hst3 : ∀ t : Nat, (t : Int) < m 1 → 0 ≤ m (258 + 14 * t) ∧ m (258 + 14 * t) ≤ 2 := fun t ht => (hst2 t ht).1
  have h3 := hok.2.2.2.2.1
  by_cases w : 0 ≤ a ∧ a ≤ m 3 - 1
  · skip
    obtain ⟨q, rfl⟩ : ∃ q : Nat, a = q := ⟨a.toNat, by omega⟩
    have eq : ((q : Int)).toNat = q := by omega
    have e10 : ((1610 : Int) + 72 * (q : Int)).toNat = 1610 + 72 * q := by omega
    have e14 : ((1614 : Int) + 72 * (q : Int)).toNat = 1614 + 72 * q := by omega
    have e09 : ((1609 : Int) + 72 * (q : Int)).toNat = 1609 + 72 * q := by omega
    have tkq := (hTk.2 q (by omega)).1
    have k0 := hcK q (by omega)
    have k1 := (hT.2.2 q (by omega)).1
    by_cases w5 : -99 ≤ i ∧ i ≤ 99
    · by_cases w2 : m (1610 + 72 * q) = 0
      · have ev : rankV m q i = m (1609 + 72 * q) + 100 := by unfold rankV; rw [if_pos w, if_pos w5, e10, if_pos w2, e09]
        have cd : rankDo m q i := ⟨⟨w, by rw [e10]; exact w2⟩, w5⟩
        have ec : c (490 + 9 * q) = m (1609 + 72 * q) := k1.2.1
        refine TWO.of (dm := 1000) (z := .int (J (m (1609 + 72 * q) + 100))) (f4' := f4) (m' := updI m (1609 + 72 * q) i) (kpm' := kpm) (pool' := pool) (zt' := zt) (ft' := ft) (f18' := f18) (pap' := pap) (rwd' := rwd) (rw' := rw) (Nat.le_of_ble_eq_true rfl) (Nat.le_of_ble_eq_true rfl) ⟨_, rfl⟩ hSZ hMH ((kg_rank 0 hK hc hC ha hi).mono (fun v h' q0 => ?_)) (fun h1 hM1 => ?_) ?_
        · rw [eq, ec] at q0
          rcases q0 with q0 | q0 | q0 | ⟨-, -, q1, q2, q3⟩
          · exfalso; omega
          · exfalso; omega
          · exfalso; omega
          · exact ⟨q1, CP.of hxy q3 q2 (ctr_rank hT hTk hok (by omega) hi) hst hke htk hro hpa⟩
        · obtain ⟨f14, f16, was, pln, r14, f8, f9, f10, f11, f12, f13, s, r11, hB⟩ := id hM1
          refine ((m_rank 0 hB hM h3 ha hi).deeper (Nat.le_of_ble_eq_true rfl)).mono (fun v h2 q0 => ?_)
          rw [ev, e09] at q0
          rcases q0 with ⟨q1, ⟨q2, -⟩ | ⟨-, q2, q3⟩⟩
          · exact absurd cd q2
          · exact ⟨q1, ⟨f14, f16, was, pln, r14, q2.isMs r11⟩, q3⟩
        · exact hSO.mm ((hA.task (k := 1609 + 72 * q) (t := q) (v := i) hi (by omega) (Or.inr ⟨rfl, w5.1, w5.2⟩)).up (by omega) (by omega)) (updI_n (by omega))
      · have ev : rankV m q i = -3 := by unfold rankV; rw [if_pos w, if_pos w5, e10, if_neg w2]
        have cd : ¬ rankDo m q i := fun z => w2 (by have := z.1.2; rwa [e10] at this)
        refine TWO.ask (z := .int (J (-3))) (Nat.le_of_ble_eq_true rfl) (Nat.le_of_ble_eq_true rfl) ⟨_, rfl⟩ hCH hMH hSO hSZ ((kg_rank 0 hK hc hC ha hi).mono (fun v h' q0 => ?_)) (fun h1 f8 f9 f10 f11 f12 f13 f14 f16 was pln s r14 r11 hB => (m_rank 0 hB hM h3 ha hi).mono (fun v h2 q0 => ?_))
        · rw [eq] at q0
          rcases q0 with q0 | q0 | q0 | q0
          all_goals first | (exfalso; omega) | exact ⟨q0.2.1, q0.2.2⟩ | exact ⟨q0.2.2.1, q0.2.2.2⟩
        · rw [ev] at q0
          rcases q0 with ⟨q1, q2 | q2⟩
          · exact ⟨q1, q2.2⟩
          · exact absurd q2.1 cd
    · have ev : rankV m q i = -2 := by unfold rankV; rw [if_pos w, if_neg w5]
      have cd : ¬ rankDo m q i := fun z => w5 z.2
      refine TWO.ask (z := .int (J (-2))) (Nat.le_of_ble_eq_true rfl) (Nat.le_of_ble_eq_true rfl) ⟨_, rfl⟩ hCH hMH hSO hSZ ((kg_rank 0 hK hc hC ha hi).mono (fun v h' q0 => ?_)) (fun h1 f8 f9 f10 f11 f12 f13 f14 f16 was pln s r14 r11 hB => (m_rank 0 hB hM h3 ha hi).mono (fun v h2 q0 => ?_))
      · rw [eq] at q0
        rcases q0 with q0 | q0 | q0 | q0
        all_goals first | (exfalso; omega) | exact ⟨q0.2.1, q0.2.2⟩ | exact ⟨q0.2.2.1, q0.2.2.2⟩
      · rw [ev] at q0
        rcases q0 with ⟨q1, q2 | q2⟩
        · exact ⟨q1, q2.2⟩
        · exact absurd q2.1 cd
  · have ev : rankV m a i = -1 := by unfold rankV; rw [if_neg w]
    have cd : ¬ rankDo m a i := fun z => w z.1.1
    refine TWO.ask (z := .int (J (-1))) (Nat.le_of_ble_eq_true rfl) (Nat.le_of_ble_eq_true rfl) ⟨_, rfl⟩ hCH hMH hSO hSZ ((kg_rank 0 hK hc hC ha hi).mono (fun v h' q0 => ?_)) (fun h1 f8 f9 f10 f11 f12 f13 f14 f16 was pln s r14 r11 hB => (m_rank 0 hB hM h3 ha hi).mono (fun v h2 q0 => ?_))
    · rcases q0 with q0 | q0 | q0 | q0
      all_goals first | (exfalso; omega) | exact ⟨q0.2.1, q0.2.2⟩ | exact ⟨q0.2.2.1, q0.2.2.2⟩
    · rw [ev] at q0
      rcases q0 with ⟨q1, q2 | q2⟩
      · exact ⟨q1, q2.2⟩
      · exact absurd q2.1 cd
set_option maxHeartbeats 4000000 in
set_option maxRecDepth 100000 in
theorem two_move {sg : Bool} {G : mG} {l : Launch} (hG : G.2.map Prod.snd = mTy) {x y n0 : Nat} {h : mH} (hn0 : n0 ≤ 600) (hI : RI sg x y n0 h) {a : Int} (ha : InR a) {i : Int} (hi : InR i) : TWO sg G l x y n0 false mX10_move mX11_move [.int (J a), .int (J i)] h := by
  obtain ⟨f4, m, kpm, pool, zt, ft, f18, pap, rwd, rw, hCH, hMH, hSO, hSZ⟩ := hI
  obtain ⟨S, kp, tk, zr, fr, p, e, o, zs, fs, b, fa, c, C, nm, g, hK, ⟨hT, hst, hke, htk⟩, hro, hpa, hxy⟩ := id hCH
  obtain ⟨⟨hA, hPo⟩, hkp, hta, h18, hrw⟩ := id hSO
  obtain ⟨N, K, T, Z, F, hX⟩ := fx_of hT hA
  obtain ⟨⟨mN, cN, N90⟩, ⟨mK, cK, K1, K60⟩, ⟨mT, cT, T10⟩, ⟨cZ, Z150⟩, ⟨⟨c11, c12, c13⟩, F90, c4⟩, ⟨hO, hpR, hpO, hoO⟩, ⟨c8, c9, L0, L90⟩, ⟨hc, hC⟩, hst2, htp⟩ := id hX
  obtain ⟨⟨hInv, hsc, hnc, hns⟩, hTk, hm7, hm8⟩ := id hA
  have hok := hInv.1
  have hM := hok.1
  have hCR := hT.1
  have hcT := hCR.2.1
  have hcS := hCR.2.2.1
  have hcK := hCR.2.2.2.1
  have hcL := hCR.2.2.2.2.1
  have hst3 : ∀ t : Nat, (t : Int) < m 1 → 0 ≤ m (258 + 14 * t) ∧ m (258 + 14 * t) ≤ 2 := fun t ht => (hst2 t ht).1
  have h6 : InR (m 6 + 1) := by
    have := hInv.2.2.2.2.1
    exact ⟨by omega, by omega⟩
  by_cases w : (0 ≤ a ∧ a ≤ m 1 - 1) ∧ (0 ≤ i ∧ i ≤ m 0 - 1)
  · obtain ⟨q, rfl⟩ : ∃ q : Nat, a = q := ⟨a.toNat, by omega⟩
    obtain ⟨u, rfl⟩ : ∃ u : Nat, i = u := ⟨i.toNat, by omega⟩
    have eq : ((q : Int)).toNat = q := by omega
    have eu : ((u : Int)).toNat = u := by omega
    have e18 : ((18 : Int) + 4 * (u : Int)).toNat = 18 + 4 * u := by omega
    have e58 : ((258 : Int) + 14 * (q : Int)).toNat = 258 + 14 * q := by omega
    have s0 : c (304 + 3 * u) = 0 ↔ m (18 + 4 * u) = 0 := by rw [(hcS u (by omega)).1]; exact swT_0 (hsc.2.2 u (by omega)).1
    have t0 : c (32 + 3 * q) = 0 ↔ m (258 + 14 * q) = 0 := by rw [(hcT q (by omega)).1]; exact swT_0 (hst3 q (by omega))
    have hop : openP m (u : Int) ↔ m (18 + 4 * u) = 0 := ⟨fun z => by have := z.2.2; rwa [e18] at this, fun z => ⟨w.2.1, w.2.2, by rw [e18]; exact z⟩⟩
    by_cases w2 : m (258 + 14 * q) = 0 ∧ m (18 + 4 * u) = 0
    · have md : moveDo m q u := ⟨w.1, by rw [e58]; exact w2.1, hop.mpr w2.2⟩
      have ev : moveV m N K q u = entsN (movesM m q u) u N K := by unfold moveV; rw [if_pos w, if_pos ⟨by rw [e58]; exact w2.1, hop.mpr w2.2⟩, eq]
      have t1 := t0.mpr w2.1
      have s1 := s0.mpr w2.2
      obtain ⟨hA2, h82⟩ := all_move hA (by omega) md
      rw [eq] at hA2 h82
      have hT2 := ctr_move hT hTk hok (t := q) (s := (u : Int)) (by omega) w2.1 ⟨by omega, by omega⟩ cZ
      have cn0 := cnt_r (p := notB (q : Int) (C 2)) Z
      have e0 : movesM m q u 0 = m 0 := by unfold movesM; (repeat rw [updI_n (by omega)])
      have e1 : movesM m q u 1 = m 1 := by unfold movesM; (repeat rw [updI_n (by omega)])
      have ec : cnt (enB (mvC c q u (cnt (notB (q : Int) (C 2)) Z)) (mvD C Z q 2) u) ((cnt (notB (q : Int) (C 2)) Z).toNat + 1) = entsN (movesM m q u) u N K := by
        obtain ⟨⟨i1, i2, i3, i4⟩, -⟩ := hA2
        exact en_eq hT2.1 i1.1 i2 i3 (fun t ht => (i1.2.2.1 t ht).1) w.2.1 (by unfold mvC; rw [updI_s]; omega) (e1.trans mN) (e0.trans mK)
      refine TWO.of (dm := 1000) (z := .int (J (entsN (movesM m q u) u N K))) (f4' := f4) (m' := movesM m q u) (kpm' := kpm) (pool' := pool) (zt' := zt) (ft' := ft) (f18' := f18) (pap' := pap) (rwd' := rwd) (rw' := rw) (Nat.le_of_ble_eq_true rfl) (Nat.le_of_ble_eq_true rfl) ⟨_, rfl⟩ hSZ hMH ((kg_move 0 hK hc hC ha hi cZ Z150).mono (fun v h' q0 => ?_)) (fun h1 hM1 => ?_) ?_
      · rw [eq, eu, ec] at q0
        rcases q0 with q0 | q0 | ⟨-, -, q1, q2, q3⟩
        · exfalso; omega
        · exfalso; omega
        · exact ⟨q1, CP.of hxy q3 q2 hT2 hst hke htk hro hpa⟩
      · obtain ⟨f14, f16, was, pln, r14, f8, f9, f10, f11, f12, f13, s, r11, hB⟩ := id hM1
        refine ((m_move 0 hB hM mN N90 mK K1 K60 h6 ha hi).deeper (Nat.le_of_ble_eq_true rfl)).mono (fun v h2 q0 => ?_)
        rw [ev, eq] at q0
        rcases q0 with ⟨q1, ⟨q2, -⟩ | ⟨-, q2, q3⟩⟩
        · exact absurd md q2
        · exact ⟨q1, ⟨f14, f16, was, pln, r14, q2.isMs r11⟩, q3⟩
      · exact hSO.mm (hA2.up (by omega) (by omega)) h82
    · have md : ¬ moveDo m q u := fun z => w2 ⟨by have := z.2.1; rwa [e58] at this, hop.mp z.2.2⟩
      have ev : moveV m N K q u = -3 := by unfold moveV; rw [if_pos w, if_neg (fun z => w2 ⟨by have := z.1; rwa [e58] at this, hop.mp z.2⟩)]
      refine TWO.ask (z := .int (J (-3))) (Nat.le_of_ble_eq_true rfl) (Nat.le_of_ble_eq_true rfl) ⟨_, rfl⟩ hCH hMH hSO hSZ ((kg_move 0 hK hc hC ha hi cZ Z150).mono (fun v h' q0 => ?_)) (fun h1 f8 f9 f10 f11 f12 f13 f14 f16 was pln s r14 r11 hB => (m_move 0 hB hM mN N90 mK K1 K60 h6 ha hi).mono (fun v h2 q0 => ?_))
      · rw [eq, eu] at q0
        rcases q0 with q0 | q0 | q0
        all_goals first | (exfalso; omega) | exact ⟨q0.2.1, q0.2.2⟩ | exact ⟨q0.2.2.1, q0.2.2.2⟩
      · rw [ev] at q0
        rcases q0 with ⟨q1, q2 | q2⟩
        · exact ⟨q1, q2.2⟩
        · exact absurd q2.1 md
  · have md : ¬ moveDo m a i := fun z => w ⟨z.1, z.2.2.1, z.2.2.2.1⟩
    have ev : moveV m N K a i = -1 := by unfold moveV; rw [if_neg w]
    refine TWO.ask (z := .int (J (-1))) (Nat.le_of_ble_eq_true rfl) (Nat.le_of_ble_eq_true rfl) ⟨_, rfl⟩ hCH hMH hSO hSZ ((kg_move 0 hK hc hC ha hi cZ Z150).mono (fun v h' q0 => ?_)) (fun h1 f8 f9 f10 f11 f12 f13 f14 f16 was pln s r14 r11 hB => (m_move 0 hB hM mN N90 mK K1 K60 h6 ha hi).mono (fun v h2 q0 => ?_))
    · rcases q0 with q0 | q0 | q0
      all_goals first | (exfalso; omega) | exact ⟨q0.2.1, q0.2.2⟩ | exact ⟨q0.2.2.1, q0.2.2.2⟩
    · rw [ev] at q0
      rcases q0 with ⟨q1, q2 | q2⟩
      · exact ⟨q1, q2.2⟩
      · exact absurd q2.1 md
end mg_g4
section mg_g5
/-! ===== rows, on both ===== -/
set_option maxHeartbeats 4000000 in
set_option maxRecDepth 100000 in
theorem two_row {sg : Bool} {G : mG} {l : Launch} (hG : G.2.map Prod.snd = mTy) {x y n0 : Nat} {h : mH} (hn0 : n0 ≤ 600) (hI : RI sg x y n0 h) {a : Int} (ha : InR a) {i : Int} (hi : InR i) : TWO sg G l x y n0 false mX10_row mX11_row [.int (J a), .int (J i)] h := by
  obtain ⟨f4, m, kpm, pool, zt, ft, f18, pap, rwd, rw, hCH, hMH, hSO, hSZ⟩ := hI
  obtain ⟨S, kp, tk, zr, fr, p, e, o, zs, fs, b, fa, c, C, nm, g, hK, ⟨hT, hst, hke, htk⟩, hro, hpa, hxy⟩ := id hCH
  obtain ⟨⟨hA, hPo⟩, hkp, hta, h18, hrw⟩ := id hSO
  obtain ⟨N, K, T, Z, F, hX⟩ := fx_of hT hA
  obtain ⟨⟨mN, cN, N90⟩, ⟨mK, cK, K1, K60⟩, ⟨mT, cT, T10⟩, ⟨cZ, Z150⟩, ⟨⟨c11, c12, c13⟩, F90, c4⟩, ⟨hO, hpR, hpO, hoO⟩, ⟨c8, c9, L0, L90⟩, ⟨hc, hC⟩, hst2, htp⟩ := id hX
  obtain ⟨⟨hInv, hsc, hnc, hns⟩, hTk, hm7, hm8⟩ := id hA
  have hok := hInv.1
  have hM := hok.1
  have hCR := hT.1
  have hcT := hCR.2.1
  have hcS := hCR.2.2.1
  have hcK := hCR.2.2.2.1
  have hcL := hCR.2.2.2.2.1
  have hst3 : ∀ t : Nat, (t : Int) < m 1 → 0 ≤ m (258 + 14 * t) ∧ m (258 + 14 * t) ≤ 2 := fun t ht => (hst2 t ht).1
  by_cases w : 0 ≤ a ∧ a ≤ 3
  · by_cases w2 : 40 < i
    · have ev : rowV a i = -2 := by unfold rowV; rw [if_pos w, if_neg (by omega)]
      have nd : ¬ rowDo a i := fun z => by have := z.2; omega
      refine TWO.ask (z := .int (J (-2))) (Nat.le_of_ble_eq_true rfl) (Nat.le_of_ble_eq_true rfl) ⟨_, rfl⟩ hCH hMH hSO hSZ ((kg_row 0 hK hc hC ha hi (fun q => (hro.1.1 q).1)).mono (fun v h' q0 => ?_)) (fun h1 f8 f9 f10 f11 f12 f13 f14 f16 was pln s r14 r11 hB => (m_row 0 hB ha hi).mono (fun v h2 q0 => ?_))
      · rcases q0 with q0 | q0 | q0 | q0
        all_goals first | (exfalso; omega) | exact ⟨q0.2.1, q0.2.2⟩ | exact ⟨q0.2.2.1, q0.2.2.2⟩
      · rw [ev] at q0
        rcases q0 with ⟨q1, q2 | q2⟩
        · exact ⟨q1, q2.2⟩
        · exact absurd q2.1 nd
    · by_cases w3 : i < 0
      · have ev : rowV a i = -14 := by unfold rowV; rw [if_pos w, if_pos (by omega), if_neg (by omega)]
        have nd : ¬ rowDo a i := fun z => by have := z.2; omega
        refine TWO.ask (z := .int (J (-14))) (Nat.le_of_ble_eq_true rfl) (Nat.le_of_ble_eq_true rfl) ⟨_, rfl⟩ hCH hMH hSO hSZ ((kg_row 0 hK hc hC ha hi (fun q => (hro.1.1 q).1)).mono (fun v h' q0 => ?_)) (fun h1 f8 f9 f10 f11 f12 f13 f14 f16 was pln s r14 r11 hB => (m_row 0 hB ha hi).mono (fun v h2 q0 => ?_))
        · rcases q0 with q0 | q0 | q0 | q0
          all_goals first | (exfalso; omega) | exact ⟨q0.2.1, q0.2.2⟩ | exact ⟨q0.2.2.1, q0.2.2.2⟩
        · rw [ev] at q0
          rcases q0 with ⟨q1, q2 | q2⟩
          · exact ⟨q1, q2.2⟩
          · exact absurd q2.1 nd
      · have ev : rowV a i = 1 := by unfold rowV; rw [if_pos w, if_pos (by omega), if_pos (by omega)]
        have yd : rowDo a i := ⟨w, by omega, by omega⟩
        refine TWO.of (dm := 1000) (z := .int (J (1))) (f4' := f4) (m' := m) (kpm' := kpm) (pool' := pool) (zt' := zt) (ft' := ft) (f18' := f18) (pap' := pap) (rwd' := updI rwd a.toNat i) (rw' := zrF rw (40 * a.toNat) 40) (Nat.le_of_ble_eq_true rfl) (Nat.le_of_ble_eq_true rfl) ⟨_, rfl⟩ hSZ hMH ((kg_row 0 hK hc hC ha hi (fun q => (hro.1.1 q).1)).mono (fun v h' q0 => ?_)) (fun h1 hM1 => ?_) ?_
        · rcases q0 with q0 | q0 | q0 | ⟨-, -, q1, ⟨f2, q2, rfl⟩, q3⟩
          · exfalso; omega
          · exfalso; omega
          · exfalso; omega
          · refine ⟨q1, CP.of hxy q3 q2 hT hst hke htk (hro.put ⟨hi, by omega⟩ (fun q => ?_) (fun q e hq => ⟨updI_n e, fun j hj => ?_⟩) (Or.inr ⟨by omega, updI_s.symm, fun j hj => ?_⟩)) hpa⟩
            · unfold zerF; split
              · decide
              · exact hro.1.2 _ q
            · unfold zrF; rw [if_neg (by omega)]
            · unfold zerF zrF; rw [if_pos (by omega), if_pos (by omega)]
        · obtain ⟨f14, f16, was, pln, r14, f8, f9, f10, f11, f12, f13, s, r11, hB⟩ := id hM1
          refine ((m_row 0 hB ha hi).deeper (Nat.le_of_ble_eq_true rfl)).mono (fun v h2 q0 => ?_)
          rw [ev] at q0
          rcases q0 with ⟨q1, ⟨q2, -⟩ | ⟨-, q2, q3⟩⟩
          · exact absurd yd q2
          · exact ⟨q1, ⟨f14, f16, was, pln, r14, q2.isMs r11⟩, q3⟩
        · refine hSO.rows ⟨fun q => ?_, fun q => ?_⟩
          · unfold updI; split
            · exact ⟨hi, by omega⟩
            · exact hrw.1 q
          · unfold zrF; split
            · decide
            · exact hrw.2 q
  · have ev : rowV a i = -1 := by unfold rowV; rw [if_neg w]
    have nd : ¬ rowDo a i := fun z => w z.1
    refine TWO.ask (z := .int (J (-1))) (Nat.le_of_ble_eq_true rfl) (Nat.le_of_ble_eq_true rfl) ⟨_, rfl⟩ hCH hMH hSO hSZ ((kg_row 0 hK hc hC ha hi (fun q => (hro.1.1 q).1)).mono (fun v h' q0 => ?_)) (fun h1 f8 f9 f10 f11 f12 f13 f14 f16 was pln s r14 r11 hB => (m_row 0 hB ha hi).mono (fun v h2 q0 => ?_))
    · rcases q0 with q0 | q0 | q0 | q0
      all_goals first | (exfalso; omega) | exact ⟨q0.2.1, q0.2.2⟩ | exact ⟨q0.2.2.1, q0.2.2.2⟩
    · rw [ev] at q0
      rcases q0 with ⟨q1, q2 | q2⟩
      · exact ⟨q1, q2.2⟩
      · exact absurd q2.1 nd
set_option maxHeartbeats 4000000 in
set_option maxRecDepth 100000 in
theorem two_set {sg : Bool} {G : mG} {l : Launch} (hG : G.2.map Prod.snd = mTy) {x y n0 : Nat} {h : mH} (hn0 : n0 ≤ 600) (hI : RI sg x y n0 h) {a : Int} (ha : InR a) {i : Int} (hi : InR i) {u : Int} (hu : InR u) : TWO sg G l x y n0 false mX10_set mX11_set [.int (J a), .int (J i), .int (J u)] h := by
  obtain ⟨f4, m, kpm, pool, zt, ft, f18, pap, rwd, rw, hCH, hMH, hSO, hSZ⟩ := hI
  obtain ⟨S, kp, tk, zr, fr, p, e, o, zs, fs, b, fa, c, C, nm, g, hK, ⟨hT, hst, hke, htk⟩, hro, hpa, hxy⟩ := id hCH
  obtain ⟨⟨hA, hPo⟩, hkp, hta, h18, hrw⟩ := id hSO
  obtain ⟨N, K, T, Z, F, hX⟩ := fx_of hT hA
  obtain ⟨⟨mN, cN, N90⟩, ⟨mK, cK, K1, K60⟩, ⟨mT, cT, T10⟩, ⟨cZ, Z150⟩, ⟨⟨c11, c12, c13⟩, F90, c4⟩, ⟨hO, hpR, hpO, hoO⟩, ⟨c8, c9, L0, L90⟩, ⟨hc, hC⟩, hst2, htp⟩ := id hX
  obtain ⟨⟨hInv, hsc, hnc, hns⟩, hTk, hm7, hm8⟩ := id hA
  have hok := hInv.1
  have hM := hok.1
  have hCR := hT.1
  have hcT := hCR.2.1
  have hcS := hCR.2.2.1
  have hcK := hCR.2.2.2.1
  have hcL := hCR.2.2.2.2.1
  have hst3 : ∀ t : Nat, (t : Int) < m 1 → 0 ≤ m (258 + 14 * t) ∧ m (258 + 14 * t) ≤ 2 := fun t ht => (hst2 t ht).1
  have hRo : ∀ q, InR (rwd q) := fun q => (hrw.1 q).1
  have h40 : ∀ q, rwd q ≤ 40 := fun q => (hrw.1 q).2
  by_cases w : 0 ≤ a ∧ a ≤ 3
  · rcases hro.2 a.toNat (by omega) with ⟨r1, r2⟩ | ⟨r1, r2, r3⟩
    · have ev : setV rwd a i = -11 := by
        have e2 : wrongV rwd a = -11 := by unfold wrongV; rw [if_pos w, if_pos (by omega)]
        unfold setV; rw [e2]; rfl
      refine TWO.ask (z := .int (J (-11))) (Nat.le_of_ble_eq_true rfl) (Nat.le_of_ble_eq_true rfl) ⟨_, rfl⟩ hCH hMH hSO hSZ ((kg_set 0 hK hc hC ha hi hu (fun q => (hro.1.1 q).1) hro.1.2).mono (fun v h' q0 => ?_)) (fun h1 f8 f9 f10 f11 f12 f13 f14 f16 was pln s r14 r11 hB => (m_set 0 hB hRo ha hi h40).mono (fun v h2 q0 => ?_))
      · rcases q0 with q0 | q0 | q0 | q0
        all_goals first | (exfalso; omega) | exact ⟨q0.2.1, q0.2.2⟩ | exact ⟨q0.2.2.1, q0.2.2.2⟩
      · rw [ev] at q0
        rcases q0 with ⟨q1, ⟨-, q2⟩ | ⟨q2, -⟩⟩
        · exact ⟨q1, q2⟩
        · exact absurd q2 (by decide)
    · have e2 : wrongV rwd a = 0 := by unfold wrongV; rw [if_pos w, if_neg (by omega)]
      have z40 := (hro.1.1 a.toNat).2
      by_cases w2 : 0 ≤ i ∧ i ≤ rwd a.toNat - 1
      · have ev : setV rwd a i = 1 := by unfold setV; rw [e2, if_pos rfl, if_pos w2]
        have ii : inI 40 (zr a.toNat) i := ⟨by omega, by omega, by omega⟩
        refine TWO.of (dm := 1000) (z := .int (J (1))) (f4' := f4) (m' := m) (kpm' := kpm) (pool' := pool) (zt' := zt) (ft' := ft) (f18' := f18) (pap' := pap) (rwd' := rwd) (rw' := updI rw (40 * a + i).toNat u) (Nat.le_of_ble_eq_true rfl) (Nat.le_of_ble_eq_true rfl) ⟨_, rfl⟩ hSZ hMH ((kg_set 0 hK hc hC ha hi hu (fun q => (hro.1.1 q).1) hro.1.2).mono (fun v h' q0 => ?_)) (fun h1 hM1 => ?_) ?_
        · rcases q0 with q0 | q0 | q0 | ⟨-, -, q1, q2, q3⟩
          · exfalso; omega
          · exfalso; omega
          · exact absurd ii q0.2.1
          · rw [show putF 40 (zr a.toNat) (fr a.toNat) i u = updI (fr a.toNat) i.toNat u by unfold putF; rw [if_pos ii]] at q2
            refine ⟨q1, CP.of hxy q3 q2 hT hst hke htk (hro.put (hro.1.1 _) (inR_up (hro.1.2 _) hu) (fun q e hq => ⟨rfl, fun j hj => updI_n (by omega)⟩) (Or.inr ⟨r1, r2, fun j hj => ?_⟩)) hpa⟩
            by_cases e : j = i.toNat
            · rw [e, updI_s, show (40 * a + i).toNat = 40 * a.toNat + i.toNat by omega, updI_s]
            · rw [updI_n e, updI_n (by omega)]; exact r3 j hj
        · obtain ⟨f14, f16, was, pln, r14, f8, f9, f10, f11, f12, f13, s, r11, hB⟩ := id hM1
          refine ((m_set 0 hB hRo ha hi h40 (e := u)).deeper (Nat.le_of_ble_eq_true rfl)).mono (fun v h2 q0 => ?_)
          rw [ev] at q0
          rcases q0 with ⟨q1, ⟨q2, -⟩ | ⟨-, q2, q3⟩⟩
          · exact absurd rfl q2
          · exact ⟨q1, ⟨f14, f16, was, pln, r14, q2.isMs r11⟩, q3⟩
        · exact hSO.rows ⟨hrw.1, inR_up hrw.2 hu⟩
      · have ev : setV rwd a i = -13 := by unfold setV; rw [e2, if_pos rfl, if_neg w2]
        have ii : ¬ inI 40 (zr a.toNat) i := fun z => w2 (by omega)
        refine TWO.ask (z := .int (J (-13))) (Nat.le_of_ble_eq_true rfl) (Nat.le_of_ble_eq_true rfl) ⟨_, rfl⟩ hCH hMH hSO hSZ ((kg_set 0 hK hc hC ha hi hu (fun q => (hro.1.1 q).1) hro.1.2).mono (fun v h' q0 => ?_)) (fun h1 f8 f9 f10 f11 f12 f13 f14 f16 was pln s r14 r11 hB => (m_set 0 hB hRo ha hi h40).mono (fun v h2 q0 => ?_))
        · rcases q0 with q0 | q0 | q0 | q0
          · exfalso; omega
          · exfalso; omega
          · exact ⟨q0.2.2.1, q0.2.2.2⟩
          · exact absurd q0.2.1 ii
        · rw [ev] at q0
          rcases q0 with ⟨q1, ⟨-, q2⟩ | ⟨q2, -⟩⟩
          · exact ⟨q1, q2⟩
          · exact absurd q2 (by decide)
  · have ev : setV rwd a i = -1 := by
      have e2 : wrongV rwd a = -1 := by unfold wrongV; rw [if_neg w]
      unfold setV; rw [e2]; rfl
    refine TWO.ask (z := .int (J (-1))) (Nat.le_of_ble_eq_true rfl) (Nat.le_of_ble_eq_true rfl) ⟨_, rfl⟩ hCH hMH hSO hSZ ((kg_set 0 hK hc hC ha hi hu (fun q => (hro.1.1 q).1) hro.1.2).mono (fun v h' q0 => ?_)) (fun h1 f8 f9 f10 f11 f12 f13 f14 f16 was pln s r14 r11 hB => (m_set 0 hB hRo ha hi h40).mono (fun v h2 q0 => ?_))
    · rcases q0 with q0 | q0 | q0 | q0
      all_goals first | (exfalso; omega) | exact ⟨q0.2.1, q0.2.2⟩ | exact ⟨q0.2.2.1, q0.2.2.2⟩
    · rw [ev] at q0
      rcases q0 with ⟨q1, ⟨-, q2⟩ | ⟨q2, -⟩⟩
      · exact ⟨q1, q2⟩
      · exact absurd q2 (by decide)
set_option maxHeartbeats 4000000 in
set_option maxRecDepth 100000 in
theorem two_copy {sg : Bool} {G : mG} {l : Launch} (hG : G.2.map Prod.snd = mTy) {x y n0 : Nat} {h : mH} (hn0 : n0 ≤ 600) (hI : RI sg x y n0 h) {a : Int} (ha : InR a) {i : Int} (hi : InR i) {u : Int} (hu : InR u) {t : Int} (ht : InR t) {n : Int} (hn : InR n) : TWO sg G l x y n0 false mX10_copy mX11_copy [.int (J a), .int (J i), .int (J u), .int (J t), .int (J n)] h := by
  obtain ⟨f4, m, kpm, pool, zt, ft, f18, pap, rwd, rw, hCH, hMH, hSO, hSZ⟩ := hI
  obtain ⟨S, kp, tk, zr, fr, p, e, o, zs, fs, b, fa, c, C, nm, g, hK, ⟨hT, hst, hke, htk⟩, hro, hpa, hxy⟩ := id hCH
  obtain ⟨⟨hA, hPo⟩, hkp, hta, h18, hrw⟩ := id hSO
  obtain ⟨N, K, T, Z, F, hX⟩ := fx_of hT hA
  obtain ⟨⟨mN, cN, N90⟩, ⟨mK, cK, K1, K60⟩, ⟨mT, cT, T10⟩, ⟨cZ, Z150⟩, ⟨⟨c11, c12, c13⟩, F90, c4⟩, ⟨hO, hpR, hpO, hoO⟩, ⟨c8, c9, L0, L90⟩, ⟨hc, hC⟩, hst2, htp⟩ := id hX
  obtain ⟨⟨hInv, hsc, hnc, hns⟩, hTk, hm7, hm8⟩ := id hA
  have hok := hInv.1
  have hM := hok.1
  have hCR := hT.1
  have hcT := hCR.2.1
  have hcS := hCR.2.2.1
  have hcK := hCR.2.2.2.1
  have hcL := hCR.2.2.2.2.1
  have hst3 : ∀ t : Nat, (t : Int) < m 1 → 0 ≤ m (258 + 14 * t) ∧ m (258 + 14 * t) ≤ 2 := fun t ht => (hst2 t ht).1
  have hRo : ∀ q, InR (rwd q) := fun q => (hrw.1 q).1
  have h40 : ∀ q, rwd q ≤ 40 := fun q => (hrw.1 q).2
  by_cases w : (0 ≤ a ∧ a ≤ 3) ∧ (0 ≤ u ∧ u ≤ 3)
  · have za := (hro.1.1 a.toNat).2
    have zu := (hro.1.1 u.toNat).2
    by_cases w2 : rwd a.toNat < 0 ∨ rwd u.toNat < 0
    · have ev : copyV rwd a i u t n = -11 := by unfold copyV; rw [if_pos w, if_pos w2]
      have nd : ¬ copyDo rwd a i u t n := fun z => by have := z.2.1; omega
      have nz : ¬ (¬ zr a.toNat = -11 ∧ ¬ zr u.toNat = -11) := by
        rcases hro.2 a.toNat (by omega) with ⟨r1, r2⟩ | ⟨r1, r2, r3⟩
        · exact fun z => z.1 r1
        · rcases hro.2 u.toNat (by omega) with ⟨p1, p2⟩ | ⟨p1, p2, p3⟩
          · exact fun z => z.2 p1
          · omega
      refine TWO.ask (z := .int (J (-11))) (Nat.le_of_ble_eq_true rfl) (Nat.le_of_ble_eq_true rfl) ⟨_, rfl⟩ hCH hMH hSO hSZ ((kg_copy 0 hK hc hC ha hi hu ht hn hro.1.1).mono (fun v h' q0 => ?_)) (fun h1 f8 f9 f10 f11 f12 f13 f14 f16 was pln s r14 r11 hB => (m_copy 0 hB hRo h40 ha hi hu ht hn).mono (fun v h2 q0 => ?_))
      · rcases q0 with q0 | q0 | q0 | q0
        · exfalso; omega
        · exact ⟨q0.2.2.1, q0.2.2.2⟩
        · exact absurd q0.1.2 nz
        · exact absurd q0.1.2 nz
      · rw [ev] at q0
        rcases q0 with ⟨q1, q2 | q2⟩
        · exact ⟨q1, q2.2⟩
        · exact absurd q2.1 nd
    · rcases hro.2 a.toNat (by omega) with ⟨r1, r2⟩ | ⟨r1, r2, r3⟩
      · exfalso; omega
      · rcases hro.2 u.toNat (by omega) with ⟨p1, p2⟩ | ⟨p1, p2, p3⟩
        · exfalso; omega
        · by_cases w3 : n < 0 ∨ i < 0 ∨ t < 0 ∨ rwd a.toNat - i < n ∨ rwd u.toNat - t < n
          · have ev : copyV rwd a i u t n = -13 := by unfold copyV; rw [if_pos w, if_neg w2, if_pos w3]
            have nd : ¬ copyDo rwd a i u t n := fun z => by have := z.2.2; omega
            refine TWO.ask (z := .int (J (-13))) (Nat.le_of_ble_eq_true rfl) (Nat.le_of_ble_eq_true rfl) ⟨_, rfl⟩ hCH hMH hSO hSZ ((kg_copy 0 hK hc hC ha hi hu ht hn hro.1.1).mono (fun v h' q0 => ?_)) (fun h1 f8 f9 f10 f11 f12 f13 f14 f16 was pln s r14 r11 hB => (m_copy 0 hB hRo h40 ha hi hu ht hn).mono (fun v h2 q0 => ?_))
            · rcases q0 with q0 | q0 | q0 | q0
              · exfalso; omega
              · exfalso; omega
              · exact ⟨q0.2.2.1, q0.2.2.2⟩
              · exfalso; omega
            · rw [ev] at q0
              rcases q0 with ⟨q1, q2 | q2⟩
              · exact ⟨q1, q2.2⟩
              · exact absurd q2.1 nd
          · have ev : copyV rwd a i u t n = n := by unfold copyV; rw [if_pos w, if_neg w2, if_neg w3]
            have yd : copyDo rwd a i u t n := ⟨w, ⟨by omega, by omega⟩, by omega, by omega, by omega, by omega, by omega⟩
            refine TWO.of (dm := 1000) (z := .int (J (n))) (f4' := f4) (m' := m) (kpm' := kpm) (pool' := pool) (zt' := zt) (ft' := ft) (f18' := f18) (pap' := pap) (rwd' := rwd) (rw' := cpR rw (40 * a + i).toNat (40 * u + t).toNat 0 n.toNat) (Nat.le_of_ble_eq_true rfl) (Nat.le_of_ble_eq_true rfl) ⟨_, rfl⟩ hSZ hMH ((kg_copy 0 hK hc hC ha hi hu ht hn hro.1.1).mono (fun v h' q0 => ?_)) (fun h1 hM1 => ?_) ?_
            · rcases q0 with q0 | q0 | q0 | ⟨-, -, q1, q2, q3⟩
              · exfalso; omega
              · exfalso; omega
              · exfalso; omega
              · have ro := hro.put (rwd' := rwd) (rw' := cpR rw (40 * a + i).toNat (40 * u + t).toNat 0 n.toNat) (a := u.toNat) (z := zr u.toNat) (f := cpK (fr a.toNat) (fr u.toNat) i.toNat t.toNat n.toNat) (hro.1.1 _) (fun q => by
                  unfold cpK; split
                  · exact hro.1.2 _ _
                  · exact hro.1.2 _ _) (fun q e hq => ⟨rfl, fun j hj => cpR_n (by omega)⟩) (Or.inr ⟨p1, p2, fun j hj => by
                  unfold cpK cpR
                  by_cases z : t.toNat ≤ j ∧ j < t.toNat + n.toNat
                  · rw [if_pos z, if_pos (by omega), r3 (i.toNat + (j - t.toNat)) (by omega)]; congr 1; omega
                  · rw [if_neg z, if_neg (by omega)]; exact p3 j hj⟩)
                rw [updI_id] at ro
                exact ⟨q1, CP.of hxy q3 q2 hT hst hke htk ro hpa⟩
            · obtain ⟨f14, f16, was, pln, r14, f8, f9, f10, f11, f12, f13, s, r11, hB⟩ := id hM1
              refine ((m_copy 0 hB hRo h40 ha hi hu ht hn).deeper (Nat.le_of_ble_eq_true rfl)).mono (fun v h2 q0 => ?_)
              rw [ev] at q0
              rcases q0 with ⟨q1, ⟨q2, -⟩ | ⟨-, q2, q3⟩⟩
              · exact absurd yd q2
              · exact ⟨q1, ⟨f14, f16, was, pln, r14, q2.isMs r11⟩, q3⟩
            · refine hSO.rows ⟨hrw.1, fun q => ?_⟩
              unfold cpR; split
              · exact hrw.2 _
              · exact hrw.2 _
  · have ev : copyV rwd a i u t n = -1 := by unfold copyV; rw [if_neg w]
    have nd : ¬ copyDo rwd a i u t n := fun z => w z.1
    refine TWO.ask (z := .int (J (-1))) (Nat.le_of_ble_eq_true rfl) (Nat.le_of_ble_eq_true rfl) ⟨_, rfl⟩ hCH hMH hSO hSZ ((kg_copy 0 hK hc hC ha hi hu ht hn hro.1.1).mono (fun v h' q0 => ?_)) (fun h1 f8 f9 f10 f11 f12 f13 f14 f16 was pln s r14 r11 hB => (m_copy 0 hB hRo h40 ha hi hu ht hn).mono (fun v h2 q0 => ?_))
    · rcases q0 with q0 | q0 | q0 | q0
      · exact ⟨q0.2.1, q0.2.2⟩
      · exfalso; omega
      · exfalso; omega
      · exfalso; omega
    · rw [ev] at q0
      rcases q0 with ⟨q1, q2 | q2⟩
      · exact ⟨q1, q2.2⟩
      · exact absurd q2.1 nd
set_option maxHeartbeats 4000000 in
set_option maxRecDepth 100000 in
theorem two_lay {sg : Bool} {G : mG} {l : Launch} (hG : G.2.map Prod.snd = mTy) {x y n0 : Nat} {h : mH} (hn0 : n0 ≤ 600) (hI : RI sg x y n0 h) {a : Int} (ha : InR a) {i : Int} (hi : InR i) : TWO sg G l x y n0 false mX10_lay mX11_lay [.int (J a), .int (J i)] h := by
  obtain ⟨f4, m, kpm, pool, zt, ft, f18, pap, rwd, rw, hCH, hMH, hSO, hSZ⟩ := hI
  obtain ⟨S, kp, tk, zr, fr, p, e, o, zs, fs, b, fa, c, C, nm, g, hK, ⟨hT, hst, hke, htk⟩, hro, hpa, hxy⟩ := id hCH
  obtain ⟨⟨hA, hPo⟩, hkp, hta, h18, hrw⟩ := id hSO
  obtain ⟨N, K, T, Z, F, hX⟩ := fx_of hT hA
  obtain ⟨⟨mN, cN, N90⟩, ⟨mK, cK, K1, K60⟩, ⟨mT, cT, T10⟩, ⟨cZ, Z150⟩, ⟨⟨c11, c12, c13⟩, F90, c4⟩, ⟨hO, hpR, hpO, hoO⟩, ⟨c8, c9, L0, L90⟩, ⟨hc, hC⟩, hst2, htp⟩ := id hX
  obtain ⟨⟨hInv, hsc, hnc, hns⟩, hTk, hm7, hm8⟩ := id hA
  have hok := hInv.1
  have hM := hok.1
  have hCR := hT.1
  have hcT := hCR.2.1
  have hcS := hCR.2.2.1
  have hcK := hCR.2.2.2.1
  have hcL := hCR.2.2.2.2.1
  have hst3 : ∀ t : Nat, (t : Int) < m 1 → 0 ≤ m (258 + 14 * t) ∧ m (258 + 14 * t) ≤ 2 := fun t ht => (hst2 t ht).1
  have hRo : ∀ q, InR (rwd q) := fun q => (hrw.1 q).1
  have h40 : ∀ q, rwd q ≤ 40 := fun q => (hrw.1 q).2
  have hz0 : 0 ≤ a ∧ a < 4 → ¬ zr a.toNat = -11 → 0 ≤ zr a.toNat := fun w z => by
    rcases hro.2 a.toNat (by omega) with ⟨r1, r2⟩ | ⟨r1, r2, r3⟩
    · exact absurd r1 z
    · exact r1
  by_cases w : 0 ≤ a ∧ a ≤ 3
  · rcases hro.2 a.toNat (by omega) with ⟨r1, r2⟩ | ⟨r1, r2, r3⟩
    · have e2 : wrongV rwd a = -11 := by unfold wrongV; rw [if_pos w, if_pos (by omega)]
      have ev : layV m rwd a i = -11 := by unfold layV; rw [e2]; rfl
      refine TWO.ask (z := .int (J (-11))) (Nat.le_of_ble_eq_true rfl) (Nat.le_of_ble_eq_true rfl) ⟨_, rfl⟩ hCH hMH hSO hSZ ((kg_lay 0 hK hc hC ha hi hro.1.1 hz0 (c9.trans (show m 2 = ((m 2).toNat : Int) by omega)) (by omega)).mono (fun v h' q0 => ?_)) (fun h1 f8 f9 f10 f11 f12 f13 f14 f16 was pln s r14 r11 hB => (m_lay 0 hB hok hRo h40 ha hi).mono (fun v h2 q0 => ?_))
      · rcases q0 with q0 | q0 | q0
        · exfalso; omega
        · exact ⟨q0.2.2.1, q0.2.2.2⟩
        · exact absurd r1 q0.2.1
      · rw [ev] at q0
        rcases q0 with ⟨q1, ⟨-, q2⟩ | ⟨q2, -⟩⟩
        · exact ⟨q1, q2⟩
        · rw [e2] at q2; exact absurd q2 (by decide)
    · have e2 : wrongV rwd a = 0 := by unfold wrongV; rw [if_pos w, if_neg (by omega)]
      have z40 := (hro.1.1 a.toNat).2
      have el : layN (((m 2).toNat : Nat) : Int) (zr a.toNat) i = layN (m 2) (rwd a.toNat) i := by rw [r2, show (((m 2).toNat : Nat) : Int) = m 2 by omega]
      have lr : layN (m 2) (rwd a.toNat) i ≤ (m 2).toNat ∧ (0 < layN (m 2) (rwd a.toNat) i → 0 ≤ i ∧ i + layN (m 2) (rwd a.toNat) i ≤ rwd a.toNat) := by unfold layN; (repeat' split) <;> omega
      have ev : layV m rwd a i = if layN (m 2) (rwd a.toNat) i < (m 2).toNat then -13 else (layN (m 2) (rwd a.toNat) i : Int) := by
        unfold layV layN
        rw [e2, if_pos rfl]
        (repeat' split) <;> omega
      refine TWO.of (dm := 1000) (z := .int (J (if layN (m 2) (rwd a.toNat) i < (m 2).toNat then -13 else (layN (m 2) (rwd a.toNat) i : Int)))) (f4' := f4) (m' := m) (kpm' := kpm) (pool' := pool) (zt' := zt) (ft' := ft) (f18' := f18) (pap' := pap) (rwd' := rwd) (rw' := layR rw m (40 * a + i).toNat (layN (m 2) (rwd a.toNat) i)) (Nat.le_of_ble_eq_true rfl) (Nat.le_of_ble_eq_true rfl) ⟨_, rfl⟩ hSZ hMH ((kg_lay 0 hK hc hC ha hi hro.1.1 hz0 (c9.trans (show m 2 = ((m 2).toNat : Int) by omega)) (by omega)).mono (fun v h' q0 => ?_)) (fun h1 hM1 => ?_) ?_
      · rcases q0 with q0 | q0 | ⟨-, -, q1, q2, q3⟩
        · exfalso; omega
        · exfalso; omega
        · rw [el] at q1 q2
          have ro := hro.put (rwd' := rwd) (rw' := layR rw m (40 * a + i).toNat (layN (m 2) (rwd a.toNat) i)) (a := a.toNat) (z := zr a.toNat) (f := lyF (fr a.toNat) (C 1) i.toNat (layN (m 2) (rwd a.toNat) i)) (hro.1.1 _) (fun q => by
            unfold lyF; split
            · exact hC 1 _
            · exact hro.1.2 _ _) (fun q e hq => ⟨rfl, fun j hj => by unfold layR; rw [if_neg (by omega)]⟩) (Or.inr ⟨r1, r2, fun j hj => by
            unfold lyF layR
            by_cases z : i.toNat ≤ j ∧ j < i.toNat + layN (m 2) (rwd a.toNat) i
            · rw [if_pos z, if_pos (by omega), hcL.2 (j - i.toNat) (by omega)]; congr 1; omega
            · rw [if_neg z, if_neg (by omega)]; exact r3 j hj⟩)
          rw [updI_id] at ro
          exact ⟨q1, CP.of hxy q3 q2 hT hst hke htk ro hpa⟩
      · obtain ⟨f14, f16, was, pln, r14, f8, f9, f10, f11, f12, f13, s, r11, hB⟩ := id hM1
        refine ((m_lay 0 hB hok hRo h40 ha hi).deeper (Nat.le_of_ble_eq_true rfl)).mono (fun v h2 q0 => ?_)
        rw [ev] at q0
        rcases q0 with ⟨q1, ⟨q2, -⟩ | ⟨-, q2, q3⟩⟩
        · exact absurd e2 q2
        · exact ⟨q1, ⟨f14, f16, was, pln, r14, q2.isMs r11⟩, q3⟩
      · refine hSO.rows ⟨hrw.1, fun q => ?_⟩
        unfold layR; split
        · exact hM _
        · exact hrw.2 _
  · have e2 : wrongV rwd a = -1 := by unfold wrongV; rw [if_neg w]
    have ev : layV m rwd a i = -1 := by unfold layV; rw [e2]; rfl
    refine TWO.ask (z := .int (J (-1))) (Nat.le_of_ble_eq_true rfl) (Nat.le_of_ble_eq_true rfl) ⟨_, rfl⟩ hCH hMH hSO hSZ ((kg_lay 0 hK hc hC ha hi hro.1.1 hz0 (c9.trans (show m 2 = ((m 2).toNat : Int) by omega)) (by omega)).mono (fun v h' q0 => ?_)) (fun h1 f8 f9 f10 f11 f12 f13 f14 f16 was pln s r14 r11 hB => (m_lay 0 hB hok hRo h40 ha hi).mono (fun v h2 q0 => ?_))
    · rcases q0 with q0 | q0 | q0
      · exact ⟨q0.2.1, q0.2.2⟩
      · exfalso; omega
      · exfalso; omega
    · rw [ev] at q0
      rcases q0 with ⟨q1, ⟨-, q2⟩ | ⟨q2, -⟩⟩
      · exact ⟨q1, q2⟩
      · rw [e2] at q2; exact absurd q2 (by decide)
/-- one call on both, whatever each answers -/
def JUD (sg : Bool) (G : mG) (l : Launch) (x y n : Nat) (Mc Mm : mM) (args : List Value) (h : mH) : Prop := RUNM G l 1000 Mc (.ref x :: args) h (fun v h1 => ∃ w, v = some (.int w) ∧ MDL x y h h1 ∧ RUNM G l 1000 Mm (.ref y :: args) h1 (fun v h2 => ∃ w, v = some (.int w) ∧ RI sg x y (n + 1) h2 ∧ h2.1 = h.1 ∧ ∀ q, q < x → hGet h2 q = hGet h q))
set_option maxHeartbeats 4000000 in
set_option maxRecDepth 100000 in
theorem jud_judge {sg : Bool} {G : mG} {l : Launch} (hG : G.2.map Prod.snd = mTy) {x y n0 : Nat} {h : mH} (hn0 : n0 ≤ 600) (hI : RI sg x y n0 h) {a : Int} (ha : InR a) {i : Int} (hi : InR i) : JUD sg G l x y n0 mX10_judge mX11_judge [.int (J a), .int (J i)] h := by
  obtain ⟨f4, m, kpm, pool, zt, ft, f18, pap, rwd, rw, hCH, hMH, hSO, hSZ⟩ := hI
  obtain ⟨S, kp, tk, zr, fr, p, e, o, zs, fs, b, fa, c, C, nm, g, hK, ⟨hT, hst, hke, htk⟩, hro, hpa, hxy⟩ := id hCH
  obtain ⟨⟨hA, hPo⟩, hkp, hta, h18, hrw⟩ := id hSO
  obtain ⟨N, K, T, Z, F, hX⟩ := fx_of hT hA
  obtain ⟨⟨mN, cN, N90⟩, ⟨mK, cK, K1, K60⟩, ⟨mT, cT, T10⟩, ⟨cZ, Z150⟩, ⟨⟨c11, c12, c13⟩, F90, c4⟩, ⟨hO, hpR, hpO, hoO⟩, ⟨c8, c9, L0, L90⟩, ⟨hc, hC⟩, hst2, htp⟩ := id hX
  obtain ⟨⟨hInv, hsc, hnc, hns⟩, hTk, hm7, hm8⟩ := id hA
  have hok := hInv.1
  have hM := hok.1
  have hCR := hT.1
  have hcT := hCR.2.1
  have hcS := hCR.2.2.1
  have hcK := hCR.2.2.2.1
  have hcL := hCR.2.2.2.2.1
  have hst3 : ∀ t : Nat, (t : Int) < m 1 → 0 ≤ m (258 + 14 * t) ∧ m (258 + 14 * t) ≤ 2 := fun t ht => (hst2 t ht).1
  have hRo : ∀ q, InR (rwd q) := fun q => (hrw.1 q).1
  have h40 : ∀ q, rwd q ≤ 40 := fun q => (hrw.1 q).2
  have hz0 : 0 ≤ a ∧ a < 4 → ¬ zr a.toNat = -11 → 0 ≤ zr a.toNat := fun w z => by
    rcases hro.2 a.toNat (by omega) with ⟨r1, r2⟩ | ⟨r1, r2, r3⟩
    · exact absurd r1 z
    · exact r1
  refine ((kg_judge 0 hK hc hC ha hi hro.1.1 hz0 (c9.trans (show m 2 = ((m 2).toNat : Int) by omega)) (by omega) hro.1.2).deeper (Nat.le_of_ble_eq_true rfl)).mono (fun v h1 q0 => ?_)
  obtain ⟨⟨r, q1⟩, rfl⟩ := q0
  refine ⟨_, q1, MDL.rf hMH, ?_⟩
  obtain ⟨f14, f16, was, pln, r14, f8, f9, f10, f11, f12, f13, s, r11, hB⟩ := id hMH
  refine ((m_judge 0 hB hok hRo hrw.2 h40 ha hi).deeper (Nat.le_of_ble_eq_true rfl)).mono (fun v h2 q0 => ?_)
  obtain ⟨⟨r2, -, q2⟩, rfl⟩ := q0
  obtain ⟨z1, z2⟩ := hSZ
  exact ⟨_, q2, ⟨f4, m, kpm, pool, zt, ft, f18, pap, rwd, rw, hCH, hMH, hSO.up, by omega, by omega⟩, rfl, fun _ _ => rfl⟩
end mg_g5
section mg_g6
/-! ===== what is closed, shut, and turns, on both ===== -/
theorem stR.hS {y : Nat} {h : mH} {S : Nat → Option mO} (k : stR y h S) : ∀ a o, S a = some o → hGet h a = some o := fun a o e => (k a o e).1
theorem stR.hR {x y r : Nat} {h : mH} {S : Nat → Option mO} (k : stR y h S) (hxy : x + 196 ≤ y) (hr : r = kA x 8) : ∀ a, ¬ S a = none → ¬ rBlk r a := by
  intro a e q
  cases z : S a with
  | none => exact e z
  | some o =>
    have := (k a o z).2.1
    unfold rBlk at q
    unfold kA at hr
    omega
set_option maxHeartbeats 4000000 in
set_option maxRecDepth 100000 in
theorem two_close {sg : Bool} {G : mG} {l : Launch} (hG : G.2.map Prod.snd = mTy) {x y n0 : Nat} {h : mH} (hn0 : n0 ≤ 600) (hI : RI sg x y n0 h) {a : Int} (ha : InR a) : TWO sg G l x y n0 false mX10_close mX11_close [.int (J a)] h := by
  obtain ⟨f4, m, kpm, pool, zt, ft, f18, pap, rwd, rw, hCH, hMH, hSO, hSZ⟩ := hI
  obtain ⟨S, kp, tk, zr, fr, p, e, o, zs, fs, b, fa, c, C, nm, g, hK, ⟨hT, hst, hke, htk⟩, hro, hpa, hxy⟩ := id hCH
  obtain ⟨⟨hA, hPo⟩, hkp, hta, h18, hrw⟩ := id hSO
  obtain ⟨N, K, T, Z, F, hX⟩ := fx_of hT hA
  obtain ⟨⟨mN, cN, N90⟩, ⟨mK, cK, K1, K60⟩, ⟨mT, cT, T10⟩, ⟨cZ, Z150⟩, ⟨⟨c11, c12, c13⟩, F90, c4⟩, ⟨hO, hpR, hpO, hoO⟩, ⟨c8, c9, L0, L90⟩, ⟨hc, hC⟩, hst2, htp⟩ := id hX
  obtain ⟨⟨hInv, hsc, hnc, hns⟩, hTk, hm7, hm8⟩ := id hA
  have hok := hInv.1
  have hM := hok.1
  have hCR := hT.1
  have hcT := hCR.2.1
  have hcS := hCR.2.2.1
  have hcK := hCR.2.2.2.1
  have hcL := hCR.2.2.2.2.1
  have hst3 : ∀ t : Nat, (t : Int) < m 1 → 0 ≤ m (258 + 14 * t) ∧ m (258 + 14 * t) ≤ 2 := fun t ht => (hst2 t ht).1
  by_cases w : 0 ≤ a ∧ a ≤ m 1 - 1
  · obtain ⟨q, rfl⟩ : ∃ q : Nat, a = q := ⟨a.toNat, by omega⟩
    have eq : ((q : Int)).toNat = q := by omega
    have e58 : ((258 : Int) + 14 * (q : Int)).toNat = 258 + 14 * q := by omega
    have t0 : c (32 + 3 * q) = 0 ↔ m (258 + 14 * q) = 0 := by rw [(hcT q (by omega)).1]; exact swT_0 (hst3 q (by omega))
    by_cases w2 : m (258 + 14 * q) = 0
    · have cd : closeDo m q := ⟨w, by rw [e58]; exact w2⟩
      have t1 := t0.mpr w2
      obtain ⟨m2, b1, b2, b3, b4⟩ := both_close (G := G) (l := l) (r := kA x 8) (h0 := h) hst.hS (hst.hR hxy.1 rfl) hA hPo (by omega) cd
      have hok2 := b2.1.1.1
      refine TWO.of (dm := 1000) (z := .int (J (m2 5))) (f4' := f4) (m' := m2) (kpm' := kpm) (pool' := pool) (zt' := zt) (ft' := ft) (f18' := f18) (pap' := pap) (rwd' := rwd) (rw' := rw) (Nat.le_of_ble_eq_true rfl) (Nat.le_of_ble_eq_true rfl) ⟨_, rfl⟩ hSZ hMH ((kg_close 0 hK hc hC ha (r1 := m2 5) (R := fun h' => ∃ c5, BES (kA x 8) pool S h (-1) c5 m2 h') (hok2.1 5) (fun _ _ => b4 b (c 4) h ⟨fa, c, C, nm, g, hK.r, Same.refl, hCR, hT.2, rfl⟩)).mono (fun v h' q0 => ?_)) (fun h1 hM1 => ?_) ?_
      · rw [eq] at q0
        rcases q0 with q0 | q0 | ⟨-, -, q1, q2⟩
        · exfalso; omega
        · exfalso; omega
        · obtain ⟨c5, f2, c2, C2, nm2, g2, hR2, hS2, hC2, hT2, -⟩ := q2
          exact ⟨q1, CP.of hxy (same_kr hS2) (hK.ofR hS2 hR2) ⟨hC2, hT2⟩ hst hke htk hro hpa⟩
      · obtain ⟨f14, f16, was, pln, r14, f8, f9, f10, f11, f12, f13, s, r11, hB⟩ := id hM1
        refine ((m_close hPo.r hB hok ha (fun _ => b1)).deeper (Nat.le_of_ble_eq_true rfl)).mono (fun v h2 q0 => ?_)
        rcases q0 with ⟨q1, -⟩ | ⟨-, q1, q2, q3⟩
        · exact absurd cd q1
        · exact ⟨q1, ⟨-1, f16, was, pln, by decide, q2.isMs r11⟩, q3⟩
      · exact hSO.mm (b2.up (by omega) (by omega)) b3
    · have cd : ¬ closeDo m q := fun z => w2 (by have := z.2; rwa [e58] at this)
      have t1 : ¬ c (32 + 3 * q) = 0 := fun z => w2 (t0.mp z)
      have ev : closeN m q = -3 := by unfold closeN; rw [if_pos w]
      refine TWO.ask (z := .int (J (-3))) (Nat.le_of_ble_eq_true rfl) (Nat.le_of_ble_eq_true rfl) ⟨_, rfl⟩ hCH hMH hSO hSZ ((kg_close 0 hK hc hC ha (r1 := 0) (R := fun _ => True) (by decide) (fun z1 z2 => absurd z2 (by rw [eq]; exact t1))).mono (fun v h' q0 => ?_)) (fun h1 f8 f9 f10 f11 f12 f13 f14 f16 was pln s r14 r11 hB => (m_close (m' := m) hPo.r hB hok ha (fun z => absurd z cd)).mono (fun v h2 q0 => ?_))
      · rw [eq] at q0
        rcases q0 with q0 | q0 | q0
        · exfalso; omega
        · exact ⟨q0.2.2.1, q0.2.2.2⟩
        · exfalso; omega
      · rcases q0 with ⟨-, q1, q2⟩ | ⟨q1, -⟩
        · rw [ev] at q1; exact ⟨q1, q2⟩
        · exact absurd q1 cd
  · have cd : ¬ closeDo m a := fun z => w z.1
    have ev : closeN m a = -1 := by unfold closeN; rw [if_neg w]
    refine TWO.ask (z := .int (J (-1))) (Nat.le_of_ble_eq_true rfl) (Nat.le_of_ble_eq_true rfl) ⟨_, rfl⟩ hCH hMH hSO hSZ ((kg_close 0 hK hc hC ha (r1 := 0) (R := fun _ => True) (by decide) (fun z1 z2 => absurd z1 (by omega))).mono (fun v h' q0 => ?_)) (fun h1 f8 f9 f10 f11 f12 f13 f14 f16 was pln s r14 r11 hB => (m_close (m' := m) hPo.r hB hok ha (fun z => absurd z cd)).mono (fun v h2 q0 => ?_))
    · rcases q0 with q0 | q0 | q0
      · exact ⟨q0.2.1, q0.2.2⟩
      · exfalso; omega
      · exfalso; omega
    · rcases q0 with ⟨-, q1, q2⟩ | ⟨q1, -⟩
      · rw [ev] at q1; exact ⟨q1, q2⟩
      · exact absurd q1 cd
set_option maxHeartbeats 4000000 in
set_option maxRecDepth 100000 in
theorem two_shut {sg : Bool} {G : mG} {l : Launch} (hG : G.2.map Prod.snd = mTy) {x y n0 : Nat} {h : mH} (hn0 : n0 ≤ 600) (hI : RI sg x y n0 h) {a : Int} (ha : InR a) : TWO sg G l x y n0 false mX10_shut mX11_shut [.int (J a)] h := by
  obtain ⟨f4, m, kpm, pool, zt, ft, f18, pap, rwd, rw, hCH, hMH, hSO, hSZ⟩ := hI
  obtain ⟨S, kp, tk, zr, fr, p, e, o, zs, fs, b, fa, c, C, nm, g, hK, ⟨hT, hst, hke, htk⟩, hro, hpa, hxy⟩ := id hCH
  obtain ⟨⟨hA, hPo⟩, hkp, hta, h18, hrw⟩ := id hSO
  obtain ⟨N, K, T, Z, F, hX⟩ := fx_of hT hA
  obtain ⟨⟨mN, cN, N90⟩, ⟨mK, cK, K1, K60⟩, ⟨mT, cT, T10⟩, ⟨cZ, Z150⟩, ⟨⟨c11, c12, c13⟩, F90, c4⟩, ⟨hO, hpR, hpO, hoO⟩, ⟨c8, c9, L0, L90⟩, ⟨hc, hC⟩, hst2, htp⟩ := id hX
  obtain ⟨⟨hInv, hsc, hnc, hns⟩, hTk, hm7, hm8⟩ := id hA
  have hok := hInv.1
  have hM := hok.1
  have hCR := hT.1
  have hcT := hCR.2.1
  have hcS := hCR.2.2.1
  have hcK := hCR.2.2.2.1
  have hcL := hCR.2.2.2.2.1
  have hst3 : ∀ t : Nat, (t : Int) < m 1 → 0 ≤ m (258 + 14 * t) ∧ m (258 + 14 * t) ≤ 2 := fun t ht => (hst2 t ht).1
  by_cases w : 0 ≤ a ∧ a ≤ m 0 - 1
  · skip
    obtain ⟨q, rfl⟩ : ∃ q : Nat, a = q := ⟨a.toNat, by omega⟩
    have e18 : ((18 : Int) + 4 * (q : Int)).toNat = 18 + 4 * q := by omega
    have eq : ((q : Int)).toNat = q := by omega
    have s0 : c (304 + 3 * q) = 0 ↔ m (18 + 4 * q) = 0 := by rw [(hcS q (by omega)).1]; exact swT_0 (hsc.2.2 q (by omega)).1
    have hop : openP m (q : Int) ↔ m (18 + 4 * q) = 0 := ⟨fun z => by have := z.2.2; rwa [e18] at this, fun z => ⟨w.1, w.2, by rw [e18]; exact z⟩⟩
    by_cases w2 : m (18 + 4 * q) = 0
    · have cd : openP m (q : Int) := hop.mpr w2
      have t1 := s0.mpr w2
      obtain ⟨m2, b1, b2, b3, b4⟩ := both_shut (G := G) (l := l) (r := kA x 8) (h0 := h) hst.hS (hst.hR hxy.1 rfl) hA hPo (by omega) cd
      have hok2 := b2.1.1.1
      refine TWO.of (dm := 1000) (z := .int (J (m2 5))) (f4' := f4) (m' := m2) (kpm' := kpm) (pool' := pool) (zt' := zt) (ft' := ft) (f18' := f18) (pap' := pap) (rwd' := rwd) (rw' := rw) (Nat.le_of_ble_eq_true rfl) (Nat.le_of_ble_eq_true rfl) ⟨_, rfl⟩ hSZ hMH ((kg_shut 0 hK hc hC ha (r1 := m2 5) (R := fun h' => ∃ c5, BES (kA x 8) pool S h (-1) c5 m2 h') (hok2.1 5) (fun _ _ => b4 b (c 4) h ⟨fa, c, C, nm, g, hK.r, Same.refl, hCR, hT.2, rfl⟩)).mono (fun v h' q0 => ?_)) (fun h1 hM1 => ?_) ?_
      · rw [eq] at q0
        rcases q0 with q0 | q0 | ⟨-, -, q1, q2⟩
        · exfalso; omega
        · exfalso; omega
        · obtain ⟨c5, f2, c2, C2, nm2, g2, hR2, hS2, hC2, hT2, -⟩ := q2
          exact ⟨q1, CP.of hxy (same_kr hS2) (hK.ofR hS2 hR2) ⟨hC2, hT2⟩ hst hke htk hro hpa⟩
      · obtain ⟨f14, f16, was, pln, r14, f8, f9, f10, f11, f12, f13, s, r11, hB⟩ := id hM1
        refine ((m_shut hPo.r hB hok ha (fun _ => b1)).deeper (Nat.le_of_ble_eq_true rfl)).mono (fun v h2 q0 => ?_)
        rcases q0 with ⟨q1, -⟩ | ⟨-, q1, q2, q3⟩
        · exact absurd cd q1
        · exact ⟨q1, ⟨-1, f16, was, pln, by decide, q2.isMs r11⟩, q3⟩
      · exact hSO.mm (b2.up (by omega) (by omega)) b3
    · have cd : ¬ openP m (q : Int) := fun z => w2 (hop.mp z)
      have t1 : ¬ c (304 + 3 * q) = 0 := fun z => w2 (s0.mp z)
      have ev : shutN m q = -3 := by unfold shutN; rw [if_pos w]
      refine TWO.ask (z := .int (J (-3))) (Nat.le_of_ble_eq_true rfl) (Nat.le_of_ble_eq_true rfl) ⟨_, rfl⟩ hCH hMH hSO hSZ ((kg_shut 0 hK hc hC ha (r1 := 0) (R := fun _ => True) (by decide) (fun z1 z2 => absurd z2 (by rw [eq]; exact t1))).mono (fun v h' q0 => ?_)) (fun h1 f8 f9 f10 f11 f12 f13 f14 f16 was pln s r14 r11 hB => (m_shut (m' := m) hPo.r hB hok ha (fun z => absurd z cd)).mono (fun v h2 q0 => ?_))
      · rw [eq] at q0
        rcases q0 with q0 | q0 | q0
        · exfalso; omega
        · exact ⟨q0.2.2.1, q0.2.2.2⟩
        · exfalso; omega
      · rcases q0 with ⟨-, q1, q2⟩ | ⟨q1, -⟩
        · rw [ev] at q1; exact ⟨q1, q2⟩
        · exact absurd q1 cd
  · have cd : ¬ openP m a := fun z => w ⟨z.1, z.2.1⟩
    have ev : shutN m a = -1 := by unfold shutN; rw [if_neg w]
    refine TWO.ask (z := .int (J (-1))) (Nat.le_of_ble_eq_true rfl) (Nat.le_of_ble_eq_true rfl) ⟨_, rfl⟩ hCH hMH hSO hSZ ((kg_shut 0 hK hc hC ha (r1 := 0) (R := fun _ => True) (by decide) (fun z1 z2 => absurd z1 (by omega))).mono (fun v h' q0 => ?_)) (fun h1 f8 f9 f10 f11 f12 f13 f14 f16 was pln s r14 r11 hB => (m_shut (m' := m) hPo.r hB hok ha (fun z => absurd z cd)).mono (fun v h2 q0 => ?_))
    · rcases q0 with q0 | q0 | q0
      · exact ⟨q0.2.1, q0.2.2⟩
      · exfalso; omega
      · exfalso; omega
    · rcases q0 with ⟨-, q1, q2⟩ | ⟨q1, -⟩
      · rw [ev] at q1; exact ⟨q1, q2⟩
      · exact absurd q1 cd
set_option maxHeartbeats 4000000 in
set_option maxRecDepth 100000 in
theorem two_tick {sg : Bool} {G : mG} {l : Launch} (hG : G.2.map Prod.snd = mTy) {x y n0 : Nat} {h : mH} (hn0 : n0 ≤ 600) (hI : RI sg x y n0 h) : TWO sg G l x y n0 false mX10_tick mX11_tick [] h := by
  obtain ⟨f4, m, kpm, pool, zt, ft, f18, pap, rwd, rw, hCH, hMH, hSO, hSZ⟩ := hI
  obtain ⟨S, kp, tk, zr, fr, p, e, o, zs, fs, b, fa, c, C, nm, g, hK, ⟨hT, hst, hke, htk⟩, hro, hpa, hxy⟩ := id hCH
  obtain ⟨⟨hA, hPo⟩, hkp, hta, h18, hrw⟩ := id hSO
  obtain ⟨N, K, T, Z, F, hX⟩ := fx_of hT hA
  obtain ⟨⟨mN, cN, N90⟩, ⟨mK, cK, K1, K60⟩, ⟨mT, cT, T10⟩, ⟨cZ, Z150⟩, ⟨⟨c11, c12, c13⟩, F90, c4⟩, ⟨hO, hpR, hpO, hoO⟩, ⟨c8, c9, L0, L90⟩, ⟨hc, hC⟩, hst2, htp⟩ := id hX
  obtain ⟨⟨hInv, hsc, hnc, hns⟩, hTk, hm7, hm8⟩ := id hA
  have hok := hInv.1
  have hM := hok.1
  have hCR := hT.1
  have hcT := hCR.2.1
  have hcS := hCR.2.2.1
  have hcK := hCR.2.2.2.1
  have hcL := hCR.2.2.2.2.1
  have hst3 : ∀ t : Nat, (t : Int) < m 1 → 0 ≤ m (258 + 14 * t) ∧ m (258 + 14 * t) ≤ 2 := fun t ht => (hst2 t ht).1
  obtain ⟨m2, b1, b2, b3, b4⟩ := both_tick (G := G) (l := l) (r := kA x 8) (h0 := h) hst.hS (hst.hR hxy.1 rfl) hPo hA (by omega) (by omega)
  have rn : InR (nextV m) := by
    have := nextV_r hok
    have := hok.2.2.2.2.1
    exact ⟨by omega, by omega⟩
  refine TWO.of (dm := 1000) (z := .int (J (nextV m))) (f4' := f4) (m' := m2) (kpm' := kpm) (pool' := pool) (zt' := zt) (ft' := ft) (f18' := f18) (pap' := pap) (rwd' := rwd) (rw' := rw) (Nat.le_of_ble_eq_true rfl) (Nat.le_of_ble_eq_true rfl) ⟨_, rfl⟩ hSZ hMH ((kg_tick 0 hK hc hC (r1 := nextV m) (R := fun h' => ∃ b2, BES (kA x 8) pool S h b2 (c 4) m2 h') rn (b4 b (c 4) h ⟨fa, c, C, nm, g, hK.r, Same.refl, hCR, hT.2, rfl⟩)).mono (fun v h' q0 => ?_)) (fun h1 hM1 => ?_) ?_
  · obtain ⟨q1, q2⟩ := q0
    obtain ⟨c5, f2, c2, C2, nm2, g2, hR2, hS2, hC2, hT2, -⟩ := q2
    exact ⟨q1, CP.of hxy (same_kr hS2) (hK.ofR hS2 hR2) ⟨hC2, hT2⟩ hst hke htk hro hpa⟩
  · obtain ⟨f14, f16, was, pln, r14, f8, f9, f10, f11, f12, f13, s, r11, hB⟩ := id hM1
    refine ((m_tick hPo.r hB b1).deeper (Nat.le_of_ble_eq_true rfl)).mono (fun v h2 q0 => ?_)
    obtain ⟨q1, q2, q3⟩ := q0
    exact ⟨q1, ⟨sinkV m f14, f16, was, pln, by unfold sinkV; split <;> assumption, q2.isMs r11⟩, q3⟩
  · exact hSO.mm (b2.up (by omega) (by omega)) b3
set_option maxHeartbeats 4000000 in
set_option maxRecDepth 100000 in
theorem two_run {sg : Bool} {G : mG} {l : Launch} (hG : G.2.map Prod.snd = mTy) {x y n0 : Nat} {h : mH} (hn0 : n0 ≤ 600) (hI : RI sg x y n0 h) {a : Int} (ha : InR a) : TWO sg G l x y n0 false mX10_run mX11_run [.int (J a)] h := by
  obtain ⟨f4, m, kpm, pool, zt, ft, f18, pap, rwd, rw, hCH, hMH, hSO, hSZ⟩ := hI
  obtain ⟨S, kp, tk, zr, fr, p, e, o, zs, fs, b, fa, c, C, nm, g, hK, ⟨hT, hst, hke, htk⟩, hro, hpa, hxy⟩ := id hCH
  obtain ⟨⟨hA, hPo⟩, hkp, hta, h18, hrw⟩ := id hSO
  obtain ⟨N, K, T, Z, F, hX⟩ := fx_of hT hA
  obtain ⟨⟨mN, cN, N90⟩, ⟨mK, cK, K1, K60⟩, ⟨mT, cT, T10⟩, ⟨cZ, Z150⟩, ⟨⟨c11, c12, c13⟩, F90, c4⟩, ⟨hO, hpR, hpO, hoO⟩, ⟨c8, c9, L0, L90⟩, ⟨hc, hC⟩, hst2, htp⟩ := id hX
  obtain ⟨⟨hInv, hsc, hnc, hns⟩, hTk, hm7, hm8⟩ := id hA
  have hok := hInv.1
  have hM := hok.1
  have hCR := hT.1
  have hcT := hCR.2.1
  have hcS := hCR.2.2.1
  have hcK := hCR.2.2.2.1
  have hcL := hCR.2.2.2.2.1
  have hst3 : ∀ t : Nat, (t : Int) < m 1 → 0 ≤ m (258 + 14 * t) ∧ m (258 + 14 * t) ≤ 2 := fun t ht => (hst2 t ht).1
  by_cases w : 0 ≤ a ∧ a ≤ 100
  · obtain ⟨q, rfl⟩ : ∃ q : Nat, a = q := ⟨a.toNat, by omega⟩
    obtain ⟨k, m2, b1, b0, b2, b3, b4⟩ := both_ticks (G := G) (l := l) (r := kA x 8) (h0 := h) (n := q) hst.hS (hst.hR hxy.1 rfl) hPo hA (by omega) (by omega) (by omega)
    refine TWO.of (dm := 1000) (z := .int (J ((k : Int)))) (f4' := f4) (m' := m2) (kpm' := kpm) (pool' := pool) (zt' := zt) (ft' := ft) (f18' := f18) (pap' := pap) (rwd' := rwd) (rw' := rw) (Nat.le_of_ble_eq_true rfl) (Nat.le_of_ble_eq_true rfl) ⟨_, rfl⟩ hSZ hMH ((kg_run 0 hK hc hC ha (r1 := (k : Int)) (R := fun h' => ∃ b2, BES (kA x 8) pool S h b2 (c 4) m2 h') ⟨by omega, by omega⟩ (fun _ => b4 b (c 4) h ⟨fa, c, C, nm, g, hK.r, Same.refl, hCR, hT.2, rfl⟩)).mono (fun v h' q0 => ?_)) (fun h1 hM1 => ?_) ?_
    · rcases q0 with ⟨q1, -⟩ | ⟨-, q1, q2⟩
      · exact absurd w q1
      · obtain ⟨c5, f2, c2, C2, nm2, g2, hR2, hS2, hC2, hT2, -⟩ := q2
        exact ⟨q1, CP.of hxy (same_kr hS2) (hK.ofR hS2 hR2) ⟨hC2, hT2⟩ hst hke htk hro hpa⟩
    · obtain ⟨f14, f16, was, pln, r14, f8, f9, f10, f11, f12, f13, s, r11, hB⟩ := id hM1
      refine ((m_run (k := k) (m' := m2) hPo.r r14 ha hB (fun _ => by rw [show ((q : Int)).toNat = q by omega]; exact b1)).deeper (Nat.le_of_ble_eq_true rfl)).mono (fun v h2 q0 => ?_)
      rcases q0 with ⟨q1, -⟩ | ⟨-, q1, ⟨g14, r2, q2⟩, q3⟩
      · exact absurd w q1
      · exact ⟨q1, ⟨g14, f16, was, pln, r2, q2.isMs r11⟩, q3⟩
    · exact hSO.mm (b2.up (by omega) (by omega)) b3
  · skip
    refine TWO.ask (z := .int (J (-2))) (Nat.le_of_ble_eq_true rfl) (Nat.le_of_ble_eq_true rfl) ⟨_, rfl⟩ hCH hMH hSO hSZ ((kg_run 0 hK hc hC ha (r1 := 0) (R := fun _ => True) (by decide) (fun z => absurd z w)).mono (fun v h' q0 => ?_)) (fun h1 f8 f9 f10 f11 f12 f13 f14 f16 was pln s r14 r11 hB => (m_run (k := 0) (m' := m) hPo.r r14 ha hB (fun z => absurd z w)).mono (fun v h2 q0 => ?_))
    · rcases q0 with q0 | q0
      · exact ⟨q0.2.1, q0.2.2⟩
      · exact absurd q0.1 w
    · rcases q0 with q0 | q0
      · exact ⟨q0.2.1, q0.2.2⟩
      · exact absurd q0.1 w
end mg_g6
section mg_g7
/-! ===== find, from, rename on both ===== -/
section G7
variable {sg : Bool} {G : mG} {l : Launch} {x y n : Nat} {h hh h1 h' : mH} {f4 : Int} {m kpm pool : Nat → Int} {zt : Int} {ft : Nat → Int} {f18 : Int} {pap rwd rw : Nat → Int}
theorem isM.kq {fs : List Value} {was pln : Nat → Int} (k : isM h y fs m kpm was pool ft pln pap rwd rw) (e : h'.1 = h.1) (s : ∀ b, mBlk y b → hGet h' b = hGet h b) : isM h' y fs m kpm was pool ft pln pap rwd rw := by
  obtain ⟨k1, k2, k3, k4, k5, k6, k7, k8, k9, ka, kb⟩ := k
  refine ⟨by rw [e]; exact k1, ?_, ?_, ?_, ?_, ?_, ?_, ?_, ?_, ?_, ?_⟩
  · exact (s _ (by unfold mBlk; omega)).trans k2
  · exact (s _ (by unfold mBlk mAd; omega)).trans k3
  · exact (s _ (by unfold mBlk mAd; omega)).trans k4
  · exact (s _ (by unfold mBlk mAd; omega)).trans k5
  · exact (s _ (by unfold mBlk mAd; omega)).trans k6
  · exact (s _ (by unfold mBlk mAd; omega)).trans k7
  · exact (s _ (by unfold mBlk mAd; omega)).trans k8
  · exact (s _ (by unfold mBlk mAd; omega)).trans k9
  · exact (s _ (by unfold mBlk mAd; omega)).trans ka
  · exact (s _ (by unfold mBlk mAd; omega)).trans kb
theorem TWO.of2 {Mc Mm : mM} {args : List Value} {z : Value} {dc dm : Nat} (hdc : dc ≤ 1000) (hdm : dm ≤ 1000) {lg : Bool} (hk : isZ lg z) {f4' : Int} {m' kpm' pool' : Nat → Int} {zt' : Int} {ft' : Nat → Int} {f18' : Int} {pap' rwd' rw' : Nat → Int} (hz : SZ y n h) (hM : MH y f4 m kpm pool zt ft f18 pap rwd rw h)
    (hc : RUNM G l dc Mc (.ref x :: args) h (fun v h1 => v = some z ∧ CP sg x y f4' m' kpm' pool' zt' ft' f18' pap' rwd' rw' h h1))
    (hm : ∀ h1 : mH, h1.1 = h.1 → (∀ b, mBlk y b → hGet h1 b = hGet h b) → RUNM G l dm Mm (.ref y :: args) h1 (fun v h2 => v = some z ∧ MH y f4' m' kpm' pool' zt' ft' f18' pap' rwd' rw' h2 ∧ Same (mBlk y) h1 h2))
    (hs : SO (n + 1) f4' m' kpm' pool' zt' ft' f18' rwd' rw') : TWO sg G l x y n lg Mc Mm args h := by
  refine ⟨z, hk, (hc.deeper hdc).mono (fun v h1 q => ⟨q.1, ?_⟩)⟩
  obtain ⟨q1, q2, ⟨q3, q4⟩, q5, q6⟩ := q
  refine ⟨MDL.of q3 q4 hM, ((hm h1 q3 (fun b hb => q4 b (Or.inl hb))).deeper hdm).mono (fun v2 h2 r => ⟨r.1, ?_⟩)⟩
  obtain ⟨r1, r2, r3⟩ := r
  have e1 := r3.2.1
  have e2 := r3.2.2.1
  obtain ⟨z1, z2⟩ := hz
  have xy := q2.xy
  exact ⟨⟨f4', m', kpm', pool', zt', ft', f18', pap', rwd', rw', q2.kp (Old.of r3), r2, hs, by omega, by omega⟩, r3.1.trans q3, fun q hq => (r3.2.2.2 q (by unfold mBlk; omega)).trans (q4 q (Or.inr hq))⟩
theorem FrR.Old (F : FrR (kA x 1) h hh) : Old (kBlk x) h hh := ⟨F.1, F.2.1, fun b hb hn => F.2.2.2 b hb (fun q => hn (by unfold dBlk kA at q; unfold kBlk; omega))⟩
theorem CP.of3 {S : Nat → Option mO} {kp tk : Option Nat} {zr : Nat → Int} {fr : Nat → Nat → Int} {p e o zs : Int} {fs : Nat → Int} {b : Int} {fa c : Nat → Int} {C : Nat → Nat → Int} {nm : Nat → Int64} {g : Nat → Option Nat} (hxy : x + 196 ≤ y ∧ y + 10 ≤ h.2.1) (F : FrR (kA x 1) h hh) (sz : hh.2.1 ≤ h.2.1 + 200) (hS : Same (kBlk x) hh h1) (hK : isK h1 x kp tk zr fr p e o zt ft zs fs b 0 fa c C nm g) (hT : CTR m pool S c C nm g) (hst : stR y hh S) (hke : keR y hh S kp f4 kpm pool) (htk : tkR y hh S kp tk) (hro : roR zr fr rwd rw) (hpa : paR sg zs fs f18 pap) : CP sg x y f4 m kpm pool zt ft f18 pap rwd rw h h1 := by
  have f2 := F.2.1
  have f3 := F.2.2.1
  obtain ⟨k1, ⟨k2, k3⟩, k4, k5⟩ := CP.of (h := hh) ⟨hxy.1, by omega⟩ hS hK hT hst hke htk hro hpa
  have e1 := hS.2.1
  have e2 := hS.2.2.1
  refine ⟨k1, ⟨k2.trans F.1, fun b hb => (k3 b hb).trans (F.2.2.2 b ?_ ?_)⟩, by omega, by omega⟩
  · unfold mBlk at hb; omega
  · unfold mBlk at hb; unfold dBlk kA; omega
theorem nmY_c {sr sr' : Nat → Int} {p e : Nat} (h : ∀ j, p ≤ j → j < e → sr j = sr' j) : nmY sr p e = nmY sr' p e := by
  have : nmG sr p e = nmG sr' p e := by
    funext j
    unfold nmG
    by_cases c : p + j < e
    · rw [if_pos c, if_pos c, h (p + j) (by omega) c]
    · rw [if_neg c, if_neg c]
  unfold nmY nmN
  rw [this]
theorem hbL_n {rc : Nat → Int} {fr to : Nat} : ∀ n t : Nat, hbL m rc fr to n t = -5 ∨ 0 ≤ hbL m rc fr to n t
  | 0, t => Or.inl rfl
  | n + 1, t => by
    unfold hbL
    split
    · exact Or.inr (by omega)
    · exact hbL_n n (t + 1)
/-- a byte string that is a held thing's name is a name -/
theorem hb_name {rc : Nat → Int} {to : Nat} (hn : ∀ t : Nat, (t : Int) < m 1 → nmOk m t) : ∀ n t : Nat, ((t + n : Nat) : Int) ≤ m 1 → 0 ≤ hbL m rc 0 to n t → (1 ≤ to ∧ to ≤ 7) ∧ ∀ j, j < to → isLt (rc j) := by
  intro n
  induction n with
  | zero => intro t ht h; exact absurd h (by decide : ¬ (0 : Int) ≤ -5)
  | succ n ih =>
    intro t ht h
    unfold hbL at h
    split at h
    · rename_i c
      have ok := hn t (by omega)
      have c2 := c.2
      unfold namedB at c2
      rw [Bool.and_eq_true, decide_eq_true_eq, nmL_iff] at c2
      obtain ⟨c1, c2⟩ := c2
      have o1 := ok.1
      refine ⟨by omega, fun j hj => ?_⟩
      have e1 := ok.2 j (by omega)
      have e2 := c2 j (by omega) (by omega)
      rw [Nat.sub_zero] at e2
      rw [← e2]
      exact e1
    · exact ih (t + 1) (by omega) h
theorem ren_yes {f : Nat → Int} {z : Int} (h1 : 1 ≤ z ∧ z ≤ 7) (hl : ∀ j : Nat, (j : Int) < z → isLt (f j)) (f11 f12 : Int) : (renR f z f11 f12).1 = true := by
  have hl0 := hl 0 (by omega)
  have e0 : hereF f z 0 = f 0 := by unfold hereF; rw [if_pos (by omega)]; rfl
  rcases ren_ok (z := z) (f := f) (f11 := f11) (f12 := f12) ⟨by omega, by omega⟩ with ⟨b, e, n1, n2, n3, n4, n5, n6, n7, n8⟩ | ⟨b, -⟩
  · obtain ⟨p1, p2, p3, p4⟩ := n1
    have ez : (e : Int) = z := by
      by_cases c : (e : Int) < z
      · rcases p4 with p4 | p4
        · omega
        · exact absurd (by unfold clip; rw [if_pos c]; exact hl e c) p4
      · omega
    unfold renR
    rw [wR_1 (len := z) (r := (decide (nameB f z (ps0 f11 f12)), nameF f z (ps0 f11 f12))) (decide_eq_true b) (n5.trans ez) n7]
  · exact absurd (show 97 ≤ hereF f z 0 ∧ hereF f z 0 ≤ 122 by rw [e0]; exact hl0) b
end G7
set_option maxHeartbeats 4000000 in
set_option maxRecDepth 100000 in
theorem two_find {sg : Bool} {G : mG} {l : Launch} (hG : G.2.map Prod.snd = mTy) {x y n0 : Nat} {h : mH} (hn0 : n0 ≤ 600) (hI : RI sg x y n0 h) : TWO sg G l x y n0 false mX10_find mX11_find [] h := by
  obtain ⟨f4, m, kpm, pool, zt, ft, f18, pap, rwd, rw, hCH, hMH, hSO, hSZ⟩ := hI
  obtain ⟨S, kp, tk, zr, fr, p, e, o, zs, fs, b, fa, c, C, nm, g, hK, ⟨hT, hst, hke, htk⟩, hro, hpa, hxy⟩ := id hCH
  obtain ⟨⟨hA, hPo⟩, hkp, hta, h18, hrw⟩ := id hSO
  obtain ⟨N, K, T, Z, F, hX⟩ := fx_of hT hA
  obtain ⟨⟨mN, cN, N90⟩, ⟨mK, cK, K1, K60⟩, ⟨mT, cT, T10⟩, ⟨cZ, Z150⟩, ⟨⟨c11, c12, c13⟩, F90, c4⟩, ⟨hO, hpR, hpO, hoO⟩, ⟨c8, c9, L0, L90⟩, ⟨hc, hC⟩, hst2, htp⟩ := id hX
  obtain ⟨⟨hInv, hsc, hnc, hns⟩, hTk, hm7, hm8⟩ := id hA
  have hok := hInv.1
  have hM := hok.1
  have hCR := hT.1
  have hcT := hCR.2.1
  have hcS := hCR.2.2.1
  have hcK := hCR.2.2.2.1
  have hcL := hCR.2.2.2.2.1
  have hst3 : ∀ t : Nat, (t : Int) < m 1 → 0 ≤ m (258 + 14 * t) ∧ m (258 + 14 * t) ≤ 2 := fun t ht => (hst2 t ht).1
  obtain ⟨v1, hh, ⟨yy, rfl, F1, sz, P1, E1, rP, hD1, hQ⟩, R1⟩ := (rd_whole (G := G) (l := l) 0 hK.d hta.1 hta.2.1 (by unfold kA; omega) 0 0).ex
  have hK1 := hK.ofF (by omega) F1 hD1
  have rE : InR E1 := by
    rcases hQ with ⟨-, q, -⟩ | ⟨-, -, q1, q2⟩
    · rw [q]; decide
    · exact ⟨by omega, by omega⟩
  have hst1 := hst.kp F1.Old (fun b hb => Or.inl (by unfold kBlk at hb; omega))
  have hke1 := hke.kp F1.Old (fun b w e hb => by have := hke.lo e; unfold wBlk at hb; unfold kBlk; omega)
  have htk1 := htk.kp F1.Old (fun b r e hb => by have := htk.lo e; unfold rBlk at hb; unfold kBlk; omega)
  have hnm : namS (clip ft zt) 0 zt.toNat → yy = nmY (clip ft zt) 0 zt.toNat → (∀ j, 0 ≤ j → j < zt.toNat → isLt (ft j)) ∧ (1 ≤ zt.toNat ∧ zt.toNat ≤ 7) ∧ yy = nmY ft 0 zt.toNat ∧ hnL c nm yy N 0 = hbL m ft 0 zt.toNat N 0 := by
    intro q3 q4
    obtain ⟨p1, p2, p3, p4⟩ := q3
    have hl : ∀ j, 0 ≤ j → j < zt.toNat → isLt (ft j) := fun j h0 hj => by
      have z := p3 j h0 hj
      unfold clip at z
      rw [if_pos (by omega)] at z
      exact z
    have ey : yy = nmY ft 0 zt.toNat := by
      rw [q4]
      exact nmY_c (fun j h0 hj => by unfold clip; rw [if_pos (by omega)])
    refine ⟨hl, ⟨by omega, by omega⟩, ey, ?_⟩
    rw [ey]
    exact (hb_hn hcT hst3 hl ⟨by omega, by omega⟩ N 0 (by omega)).symm
  have ev : (if 0 ≤ E1 then -5 else hnL c nm yy N 0) = hbL m ft 0 zt.toNat N 0 := by
    rcases hQ with ⟨q1, q2, q3, q4⟩ | ⟨q1, q2, q3, q4⟩
    · rw [if_neg (by omega)]
      exact (hnm q3 q4).2.2.2
    · rw [if_pos q3]
      rcases hbL_n (m := m) (rc := ft) (fr := 0) (to := zt.toNat) N 0 with z | z
      · exact z.symm
      · obtain ⟨n1, n2⟩ := hb_name (fun t ht => (hcT t ht).2.2.2.2) N 0 (by omega) z
        exact absurd (ren_yes (f := ft) (z := zt) ⟨by omega, by omega⟩ (fun j hj => n2 j (by omega)) 0 0) (by rw [q1]; decide)
  refine TWO.of (dm := 1000) (z := .int (J (hbL m ft 0 zt.toNat N 0))) (f4' := f4) (m' := m) (kpm' := kpm) (pool' := pool) (zt' := 0) (ft' := ft) (f18' := f18) (pap' := pap) (rwd' := rwd) (rw' := rw) (Nat.le_of_ble_eq_true rfl) (Nat.le_of_ble_eq_true rfl) ⟨_, rfl⟩ hSZ hMH ((kg_find 17 hK hc hC rE R1 hK1 cN N90).mono (fun v h' q0 => ?_)) (fun h1 hM1 => ?_) ?_
  · obtain ⟨q1, q2, q3⟩ := q0
    rw [ev] at q1
    exact ⟨q1, CP.of3 hxy F1 (by omega) q3 q2 hT hst1 hke1 htk1 hro hpa⟩
  · obtain ⟨f14, f16, was, pln, r14, f8, f9, f10, f11, f12, f13, s, r11, hB⟩ := id hM1
    refine ((m_find 0 hB hok hta.1 (fun q => ⟨by have := hta.2.1 q; omega, by have := hta.2.1 q; omega⟩)).deeper (Nat.le_of_ble_eq_true rfl)).mono (fun v h2 q0 => ?_)
    obtain ⟨q1, q2, q3⟩ := q0
    rw [show (m 1).toNat = N by omega] at q1
    exact ⟨q1, ⟨f14, f16, was, pln, r14, q2.isMs r11⟩, q3⟩
  · exact hSO.tape ⟨⟨by omega, by omega⟩, hta.2.1, fun j hj => by omega⟩
set_option maxHeartbeats 4000000 in
set_option maxRecDepth 100000 in
theorem two_from {sg : Bool} {G : mG} {l : Launch} (hG : G.2.map Prod.snd = mTy) {x y n0 : Nat} {h : mH} (hn0 : n0 ≤ 600) (hI : RI sg x y n0 h) : TWO sg G l x y n0 false mX10_from mX11_from [] h := by
  obtain ⟨f4, m, kpm, pool, zt, ft, f18, pap, rwd, rw, hCH, hMH, hSO, hSZ⟩ := hI
  obtain ⟨S, kp, tk, zr, fr, p, e, o, zs, fs, b, fa, c, C, nm, g, hK, ⟨hT, hst, hke, htk⟩, hro, hpa, hxy⟩ := id hCH
  obtain ⟨⟨hA, hPo⟩, hkp, hta, h18, hrw⟩ := id hSO
  obtain ⟨N, K, T, Z, F, hX⟩ := fx_of hT hA
  obtain ⟨⟨mN, cN, N90⟩, ⟨mK, cK, K1, K60⟩, ⟨mT, cT, T10⟩, ⟨cZ, Z150⟩, ⟨⟨c11, c12, c13⟩, F90, c4⟩, ⟨hO, hpR, hpO, hoO⟩, ⟨c8, c9, L0, L90⟩, ⟨hc, hC⟩, hst2, htp⟩ := id hX
  obtain ⟨⟨hInv, hsc, hnc, hns⟩, hTk, hm7, hm8⟩ := id hA
  have hok := hInv.1
  have hM := hok.1
  have hCR := hT.1
  have hcT := hCR.2.1
  have hcS := hCR.2.2.1
  have hcK := hCR.2.2.2.1
  have hcL := hCR.2.2.2.2.1
  have hst3 : ∀ t : Nat, (t : Int) < m 1 → 0 ≤ m (258 + 14 * t) ∧ m (258 + 14 * t) ≤ 2 := fun t ht => (hst2 t ht).1
  have hnm : ∀ t : Nat, t < N → (0 ≤ m (261 + 14 * t) ∧ m (261 + 14 * t) ≤ 7) ∧ ∀ k : Nat, k < 7 → -200 ≤ m (265 + 14 * t + k) ∧ m (265 + 14 * t + k) ≤ 200 := by
    intro t ht
    have ok := (hcT t (by omega)).2.2.2.2.1
    refine ⟨by omega, fun k hk => ?_⟩
    have := hInv.2.2.2.2.2 t k (by omega) hk
    omega
  have hft : ∀ q, InR (ft q) := fun q => ⟨by have := hta.2.1 q; omega, by have := hta.2.1 q; omega⟩
  have ez : ((zt.toNat : Nat) : Int) = zt := by omega
  have ev : hfL c nm (fun y => lessL y zt ft 8 0) N 0 (-5) = frL m ft zt N 0 (-5) := by
    have y := hf_eq hcT hst3 mN (f := ft) (b := zt.toNat) (by omega) (fun j hj => hta.2.2 j (by omega)) N 0 (-5) (by omega) (Or.inl (by decide))
    rw [ez] at y
    exact y
  refine TWO.of (dm := 1000) (z := .int (J (frL m ft zt N 0 (-5)))) (f4' := f4) (m' := m) (kpm' := kpm) (pool' := pool) (zt' := 0) (ft' := ft) (f18' := f18) (pap' := pap) (rwd' := rwd) (rw' := rw) (Nat.le_of_ble_eq_true rfl) (Nat.le_of_ble_eq_true rfl) ⟨_, rfl⟩ hSZ hMH ((kg_from 0 hK hc hC cN N90 ⟨by omega, by omega⟩ hft).mono (fun v h' q0 => ?_)) (fun h1 hM1 => ?_) ?_
  · obtain ⟨q1, q2, q3⟩ := q0
    rw [ev] at q1
    exact ⟨q1, CP.of hxy q3 q2 hT hst hke htk hro hpa⟩
  · obtain ⟨f14, f16, was, pln, r14, f8, f9, f10, f11, f12, f13, s, r11, hB⟩ := id hM1
    refine ((m_from 0 hB hok mN hnm hta.1 (fun k hk => by have := hta.2.1 k; omega)).deeper (Nat.le_of_ble_eq_true rfl)).mono (fun v h2 q0 => ?_)
    obtain ⟨q1, q2, q3⟩ := q0
    exact ⟨q1, ⟨f14, f16, was, pln, r14, q2.isMs r11⟩, q3⟩
  · exact hSO.tape ⟨⟨by omega, by omega⟩, hta.2.1, fun j hj => by omega⟩
set_option maxHeartbeats 4000000 in
set_option maxRecDepth 100000 in
theorem two_rename {sg : Bool} {G : mG} {l : Launch} (hG : G.2.map Prod.snd = mTy) {x y n0 : Nat} {h : mH} (hn0 : n0 ≤ 600) (hI : RI sg x y n0 h) {a : Int} (ha : InR a) : TWO sg G l x y n0 false mX10_rename mX11_rename [.int (J a)] h := by
  obtain ⟨f4, m, kpm, pool, zt, ft, f18, pap, rwd, rw, hCH, hMH, hSO, hSZ⟩ := hI
  obtain ⟨S, kp, tk, zr, fr, p, e, o, zs, fs, b, fa, c, C, nm, g, hK, ⟨hT, hst, hke, htk⟩, hro, hpa, hxy⟩ := id hCH
  obtain ⟨⟨hA, hPo⟩, hkp, hta, h18, hrw⟩ := id hSO
  obtain ⟨N, K, T, Z, F, hX⟩ := fx_of hT hA
  obtain ⟨⟨mN, cN, N90⟩, ⟨mK, cK, K1, K60⟩, ⟨mT, cT, T10⟩, ⟨cZ, Z150⟩, ⟨⟨c11, c12, c13⟩, F90, c4⟩, ⟨hO, hpR, hpO, hoO⟩, ⟨c8, c9, L0, L90⟩, ⟨hc, hC⟩, hst2, htp⟩ := id hX
  obtain ⟨⟨hInv, hsc, hnc, hns⟩, hTk, hm7, hm8⟩ := id hA
  have hok := hInv.1
  have hM := hok.1
  have hCR := hT.1
  have hcT := hCR.2.1
  have hcS := hCR.2.2.1
  have hcK := hCR.2.2.2.1
  have hcL := hCR.2.2.2.2.1
  have hst3 : ∀ t : Nat, (t : Int) < m 1 → 0 ≤ m (258 + 14 * t) ∧ m (258 + 14 * t) ≤ 2 := fun t ht => (hst2 t ht).1
  obtain ⟨f14, f16, was, pln, r14, f8, f9, f10, f11, f12, f13, s, r11, hB0⟩ := id hMH
  obtain ⟨v1, hh, ⟨yy, rfl, F1, sz, P1, E1, rP, hD1, hQ⟩, R1⟩ := (rd_whole (G := G) (l := l) 0 hK.d hta.1 hta.2.1 (by unfold kA; omega) f11 f12).ex
  have hK1 := hK.ofF (by omega) F1 hD1
  have rE : InR E1 := by
    rcases hQ with ⟨-, q, -⟩ | ⟨-, -, q1, q2⟩
    · rw [q]; decide
    · exact ⟨by omega, by omega⟩
  have hst1 := hst.kp F1.Old (fun b hb => Or.inl (by unfold kBlk at hb; omega))
  have hke1 := hke.kp F1.Old (fun b w e hb => by have := hke.lo e; unfold wBlk at hb; unfold kBlk; omega)
  have htk1 := htk.kp F1.Old (fun b r e hb => by have := htk.lo e; unfold rBlk at hb; unfold kBlk; omega)
  have hnm : namS (clip ft zt) 0 zt.toNat → yy = nmY (clip ft zt) 0 zt.toNat → (∀ j, 0 ≤ j → j < zt.toNat → isLt (ft j)) ∧ (1 ≤ zt.toNat ∧ zt.toNat ≤ 7) ∧ yy = nmY ft 0 zt.toNat ∧ hnL c nm yy N 0 = hbL m ft 0 zt.toNat N 0 := by
    intro q3 q4
    obtain ⟨p1, p2, p3, p4⟩ := q3
    have hl : ∀ j, 0 ≤ j → j < zt.toNat → isLt (ft j) := fun j h0 hj => by
      have z := p3 j h0 hj
      unfold clip at z
      rw [if_pos (by omega)] at z
      exact z
    have ey : yy = nmY ft 0 zt.toNat := by
      rw [q4]
      exact nmY_c (fun j h0 hj => by unfold clip; rw [if_pos (by omega)])
    refine ⟨hl, ⟨by omega, by omega⟩, ey, ?_⟩
    rw [ey]
    exact (hb_hn hcT hst3 hl ⟨by omega, by omega⟩ N 0 (by omega)).symm
  by_cases w : 0 ≤ a ∧ a ≤ m 1 - 1
  · obtain ⟨q, rfl⟩ : ∃ q : Nat, a = q := ⟨a.toNat, by omega⟩
    have eq : ((q : Int)).toNat = q := by omega
    have e58 : ((258 : Int) + 14 * (q : Int)).toNat = 258 + 14 * q := by omega
    have t0 : c (32 + 3 * q) = 0 ↔ m (258 + 14 * q) = 0 := by rw [(hcT q (by omega)).1]; exact swT_0 (hst3 q (by omega))
    by_cases w2 : m (258 + 14 * q) = 0
    · have cd : closeDo m q := ⟨w, by rw [e58]; exact w2⟩
      have t1 := t0.mpr w2
      have ez : ((zt.toNat : Nat) : Int) = zt := by omega
      have hA2 := all_rename (f11 := f11) (f12 := f12) (len := zt.toNat) (t := q) hA hta.2.1 r11 (by omega)
      rw [ez] at hA2
      rcases hQ with ⟨q1, q2, q3, q4⟩ | ⟨q1, q2, q3, q4⟩
      · obtain ⟨n1, n2, n3, n4⟩ := hnm q3 q4
        by_cases w3 : 0 ≤ hbL m ft 0 zt.toNat N 0
        · have er : renF m ft q zt f11 f12 = (-3, m) := by unfold renF; rw [if_pos q1, show (m 1).toNat = N by omega, if_pos w3]
          rw [← n4] at w3
          refine TWO.of2 (dm := 1000) (z := .int (J (-3))) (f4' := f4) (m' := m) (kpm' := kpm) (pool' := pool) (zt' := 0) (ft' := ft) (f18' := f18) (pap' := pap) (rwd' := rwd) (rw' := rw) (Nat.le_of_ble_eq_true rfl) (Nat.le_of_ble_eq_true rfl) ⟨_, rfl⟩ hSZ hMH ((kg_rename 17 hK hc hC ha rE (fun _ _ => R1) (fun _ _ => hK1) cN N90).mono (fun v h' q0 => ?_)) (fun h1 m1e m1s => ?_) ?_
          · rw [eq] at q0
            rcases q0 with q0 | q0 | q0 | q0 | q0
            · exfalso; omega
            · exfalso; omega
            · exfalso; omega
            · exact ⟨q0.2.2.1, CP.of3 hxy F1 (by omega) q0.2.2.2.2 q0.2.2.2.1 hT hst1 hke1 htk1 hro hpa⟩
            · exfalso; omega
          · have hB := hB0.kq m1e m1s
            refine ((m_rename hB hok hta.2.1 hta.1 r11 ha).deeper (Nat.le_of_ble_eq_true rfl)).mono (fun v h2 q0 => ?_)
            rcases q0 with ⟨q1, -⟩ | ⟨-, q1, q2, q3⟩
            · exact absurd cd q1
            · rw [eq, er] at q1 q2
              exact ⟨q1, ⟨f14, f16, was, pln, r14, q2⟩, q3⟩
          · exact hSO.tape ⟨⟨by omega, by omega⟩, hta.2.1, fun j hj => by omega⟩
        · have er : renF m ft q zt f11 f12 = (zt, namesM m ft q 0 zt.toNat) := by unfold renF; rw [if_pos q1, show (m 1).toNat = N by omega, if_neg w3]
          rw [← n4] at w3
          rw [er] at hA2
          dsimp only at hA2
          have hT2 := ctr_rename hT hTk hok (rc := ft) (t := q) (e := zt.toNat) (by omega) n2 (fun j hj => n1 j (by omega) hj)
          have el : lnL yy 7 0 = zt := by
            rw [n3, lnL_n (fun j h0 hj => n1 j h0 hj) ⟨by omega, by omega⟩ 7 0 (by omega) (by omega)]
            omega
          refine TWO.of2 (dm := 1000) (z := .int (J (zt))) (f4' := f4) (m' := namesM m ft q 0 zt.toNat) (kpm' := kpm) (pool' := pool) (zt' := 0) (ft' := ft) (f18' := f18) (pap' := pap) (rwd' := rwd) (rw' := rw) (Nat.le_of_ble_eq_true rfl) (Nat.le_of_ble_eq_true rfl) ⟨_, rfl⟩ hSZ hMH ((kg_rename 17 hK hc hC ha rE (fun _ _ => R1) (fun _ _ => hK1) cN N90).mono (fun v h' q0 => ?_)) (fun h1 m1e m1s => ?_) ?_
          · rw [eq, el] at q0
            rcases q0 with q0 | q0 | q0 | q0 | q0
            · exfalso; omega
            · exfalso; omega
            · exfalso; omega
            · exfalso; omega
            · rw [← n3] at hT2
              exact ⟨q0.2.2.1, CP.of3 hxy F1 (by omega) q0.2.2.2.2 q0.2.2.2.1 hT2 hst1 hke1 htk1 hro hpa⟩
          · have hB := hB0.kq m1e m1s
            refine ((m_rename hB hok hta.2.1 hta.1 r11 ha).deeper (Nat.le_of_ble_eq_true rfl)).mono (fun v h2 q0 => ?_)
            rcases q0 with ⟨q1, -⟩ | ⟨-, q1, q2, q3⟩
            · exact absurd cd q1
            · rw [eq, er] at q1 q2
              exact ⟨q1, ⟨f14, f16, was, pln, r14, q2⟩, q3⟩
          · obtain ⟨⟨u1, u2⟩, ⟨u3, u4⟩, u5, u6⟩ := hSO.up
            exact ⟨⟨hA2.1.up (by omega) (by omega), u2⟩, ⟨u3, fun e => ⟨(u4 e).1, by rw [hA2.2]; exact (u4 e).2⟩⟩, ⟨⟨by omega, by omega⟩, hta.2.1, fun j hj => by omega⟩, u6⟩
      · have er : renF m ft q zt f11 f12 = (-100 - E1, m) := by unfold renF; rw [if_neg (by rw [q1]; decide), ← q2]
        refine TWO.of2 (dm := 1000) (z := .int (J (-100 - E1))) (f4' := f4) (m' := m) (kpm' := kpm) (pool' := pool) (zt' := 0) (ft' := ft) (f18' := f18) (pap' := pap) (rwd' := rwd) (rw' := rw) (Nat.le_of_ble_eq_true rfl) (Nat.le_of_ble_eq_true rfl) ⟨_, rfl⟩ hSZ hMH ((kg_rename 17 hK hc hC ha rE (fun _ _ => R1) (fun _ _ => hK1) cN N90).mono (fun v h' q0 => ?_)) (fun h1 m1e m1s => ?_) ?_
        · rw [eq] at q0
          rcases q0 with q0 | q0 | q0 | q0 | q0
          · exfalso; omega
          · exfalso; omega
          · exact ⟨q0.2.2.1, CP.of3 hxy F1 (by omega) q0.2.2.2.2 q0.2.2.2.1 hT hst1 hke1 htk1 hro hpa⟩
          · exfalso; omega
          · exfalso; omega
        · have hB := hB0.kq m1e m1s
          refine ((m_rename hB hok hta.2.1 hta.1 r11 ha).deeper (Nat.le_of_ble_eq_true rfl)).mono (fun v h2 q0 => ?_)
          rcases q0 with ⟨q1, -⟩ | ⟨-, q1, q2, q3⟩
          · exact absurd cd q1
          · rw [eq, er] at q1 q2
            exact ⟨q1, ⟨f14, f16, was, pln, r14, q2⟩, q3⟩
        · exact hSO.tape ⟨⟨by omega, by omega⟩, hta.2.1, fun j hj => by omega⟩
    · have cd : ¬ closeDo m q := fun z => w2 (by have := z.2; rwa [e58] at this)
      have t1 : ¬ c (32 + 3 * q) = 0 := fun z => w2 (t0.mp z)
      have ev : closeN m q = -3 := by unfold closeN; rw [if_pos w]
      refine TWO.ask (z := .int (J (-3))) (Nat.le_of_ble_eq_true rfl) (Nat.le_of_ble_eq_true rfl) ⟨_, rfl⟩ hCH hMH hSO hSZ ((kg_rename 17 hK hc hC ha rE (fun _ _ => R1) (fun _ _ => hK1) cN N90).mono (fun v h' q0 => ?_)) (fun h1 f8 f9 f10 f11 f12 f13 f14 f16 was pln s r14 r11 hB => (m_rename hB hok hta.2.1 hta.1 r11 ha).mono (fun v h2 q0 => ?_))
      · rw [eq] at q0
        rcases q0 with q0 | q0 | q0 | q0 | q0
        · exfalso; omega
        · exact ⟨q0.2.2.1, q0.2.2.2⟩
        · exfalso; omega
        · exfalso; omega
        · exfalso; omega
      · rcases q0 with ⟨-, q1, q2⟩ | ⟨q1, -⟩
        · rw [ev] at q1; exact ⟨q1, q2⟩
        · exact absurd q1 cd
  · have cd : ¬ closeDo m a := fun z => w z.1
    have ev : closeN m a = -1 := by unfold closeN; rw [if_neg w]
    refine TWO.ask (z := .int (J (-1))) (Nat.le_of_ble_eq_true rfl) (Nat.le_of_ble_eq_true rfl) ⟨_, rfl⟩ hCH hMH hSO hSZ ((kg_rename 17 hK hc hC ha rE (fun _ _ => R1) (fun _ _ => hK1) cN N90).mono (fun v h' q0 => ?_)) (fun h1 f8 f9 f10 f11 f12 f13 f14 f16 was pln s r14 r11 hB => (m_rename hB hok hta.2.1 hta.1 r11 ha).mono (fun v h2 q0 => ?_))
    · rcases q0 with q0 | q0 | q0 | q0 | q0
      · exact ⟨q0.2.1, q0.2.2⟩
      · exfalso; omega
      · exfalso; omega
      · exfalso; omega
      · exfalso; omega
    · rcases q0 with ⟨-, q1, q2⟩ | ⟨q1, -⟩
      · rw [ev] at q1; exact ⟨q1, q2⟩
      · exact absurd q1 cd
end mg_g7
section mg_g8
/-! ===== image, undo on both ===== -/
theorem fx_held {m pool c : Nat → Int} {S : Nat → Option mO} {C : Nat → Nat → Int} {nm : Nat → Int64} {g : Nat → Option Nat} {B T0 : Int} {N K T Z F : Nat} (hT : CTR m pool S c C nm g) (hA : All m pool B T0) (hX : FX m c C N K T Z F) : cnt (hwB c 0) N = cnt (heldB m) N := by
  obtain ⟨⟨mN, cN, N90⟩, ⟨mK, cK, K1, K60⟩, -, -, -, ⟨hO, hpR, hpO, hoO⟩, -, -, hst2, -⟩ := hX
  have hsc := hA.1.2.1
  have hcT := hT.1.2.1
  refine cnt_congr N (fun q hq => ?_)
  have s1 := hw_eq hpR hcT (i := 0) (by decide) mK K60 (fun t ht => ⟨(hst2 t ht).1, (hst2 t ht).2.2⟩) (t := q) (by omega)
  rw [s1]
  unfold heldInB belowB
  have s2 := hst2 q (by omega)
  have s3 := (wi_up hpR (o := 0) (by decide) 60 K (m (259 + 14 * q)) (by omega) (by omega) (by omega)).mp (wi_0 hpR 60 _ (by omega) (by omega) (by omega) (fun a h1 h2 => ((hsc.2.2 a h2).2 h1).1.1))
  rw [s3, decide_eq_true rfl, Bool.and_true]
theorem kg_held {G : mG} {l : Launch} (d : Nat) {h : mH} {w : Nat} {m pool c : Nat → Int} {S : Nat → Option mO} {C : Nat → Nat → Int} {nm : Nat → Int64} {g : Nat → Option Nat} {B T0 : Int} (hW : isW h w c C nm g) (hT : CTR m pool S c C nm g) (hA : All m pool B T0) : RUNM G l (d + 3) mX9_heldWithin [.ref w, .int (J 0)] h (fun v h' => v = some (.int (J (cnt (heldB m) (m 1).toNat))) ∧ h' = h) := by
  obtain ⟨N, K, T, Z, F, hX⟩ := fx_of hT hA
  have e := fx_held hT hA hX
  obtain ⟨⟨mN, cN, N90⟩, -, -, -, -, ⟨hO, -⟩, -, ⟨hc, -⟩, -⟩ := hX
  have y := cq_heldWithin (G := G) (l := l) d hW hc hO cN N90 (i := 0) (by decide)
  rw [e, show N = (m 1).toNat by omega] at y
  exact y
theorem ctr_r {m pool c : Nat → Int} {S : Nat → Option mO} {C : Nat → Nat → Int} {nm : Nat → Int64} {g : Nat → Option Nat} (hT : CTR m pool S c C nm g) : (∀ q, InR (c q)) ∧ ∀ k q, InR (C k q) := hT.1.2.2.2.2.2.2.2.2
theorem wc0_r : (∀ q, InR (wc0 q)) ∧ ∀ k q, InR (wC0 k q) := by
  refine ⟨fun q => ?_, fun k q => ?_⟩
  · exact inR_up (inR_up (inR_up (inR_up w0_r (by decide)) (by decide)) (by decide)) (by decide) q
  · unfold wC0 updC
    split
    · unfold zerF
      split
      · decide
      · exact w0_r q
    · exact w0_r q

set_option maxHeartbeats 4000000 in
set_option maxRecDepth 100000 in
theorem two_image {sg : Bool} {G : mG} {l : Launch} (hG : G.2.map Prod.snd = mTy) {x y n0 : Nat} {h : mH} (hn0 : n0 ≤ 600) (hI : RI sg x y n0 h) : TWO sg G l x y n0 false mX10_image mX11_image [] h := by
  obtain ⟨f4, m, kpm, pool, zt, ft, f18, pap, rwd, rw, hCH, hMH, hSO, hSZ⟩ := hI
  obtain ⟨S, kp, tk, zr, fr, p, e, o, zs, fs, b, fa, c, C, nm, g, hK, ⟨hT, hst, hke, htk⟩, hro, hpa, hxy⟩ := id hCH
  obtain ⟨⟨hA, hPo⟩, hkp, hta, h18, hrw⟩ := id hSO
  obtain ⟨N, K, T, Z, F, hX⟩ := fx_of hT hA
  obtain ⟨⟨mN, cN, N90⟩, ⟨mK, cK, K1, K60⟩, ⟨mT, cT, T10⟩, ⟨cZ, Z150⟩, ⟨⟨c11, c12, c13⟩, F90, c4⟩, ⟨hO, hpR, hpO, hoO⟩, ⟨c8, c9, L0, L90⟩, ⟨hc, hC⟩, hst2, htp⟩ := id hX
  obtain ⟨⟨hInv, hsc, hnc, hns⟩, hTk, hm7, hm8⟩ := id hA
  have hok := hInv.1
  have hM := hok.1
  have hCR := hT.1
  have hcT := hCR.2.1
  have hcS := hCR.2.2.1
  have hcK := hCR.2.2.2.1
  have hcL := hCR.2.2.2.2.1
  have hst3 : ∀ t : Nat, (t : Int) < m 1 → 0 ≤ m (258 + 14 * t) ∧ m (258 + 14 * t) ≤ 2 := fun t ht => (hst2 t ht).1
  rcases id hke with ⟨rfl, e4⟩ | ⟨w2, c2, C2, nm2, g2, ⟨rfl, e4⟩, ⟨w3, w4⟩, w5, w6, w7⟩
  · skip
    refine TWO.of (dm := 1000) (z := .int (J (cnt (heldB m) (m 1).toNat))) (f4' := 1) (m' := m) (kpm' := m) (pool' := pool) (zt' := zt) (ft' := ft) (f18' := f18) (pap' := pap) (rwd' := rwd) (rw' := rw) (Nat.le_of_ble_eq_true rfl) (Nat.le_of_ble_eq_true rfl) ⟨_, rfl⟩ hSZ hMH ((kg_imageN 13 hK hc hC hG (by omega) (n1 := cnt (heldB m) (m 1).toNat) (R := fun h' => ∃ h1, isK h1 x (some h.2.1) tk zr fr p e o zt ft zs fs b 0 fa c C nm g ∧ (h1.1 = h.1 ∧ (∀ q, q < h.2.1 → ¬ q = x → hGet h1 q = hGet h q) ∧ h1.2.1 = h.2.1 + 177 ∧ h1.2.2.1 ≤ h.2.2.1 + 5000) ∧ (∃ c' C' nm' g', isW h' h.2.1 c' C' nm' g' ∧ CTR m pool S c' C' nm' g') ∧ Same (wBlk h.2.1) h1 h') (fun h1 k1 k2 k3 => (ctr_become 24 k1 wc0_r k2.w (Or.inr (by unfold rA kA; omega)) hT hok hTk).mono (fun v h' q => ⟨q.1, h1, k2, k3, q.2.1, q.2.2⟩)) (fun h' ⟨h1, k1, k2, k3, k4⟩ => (k4.2.2.2 x (by unfold wBlk; omega)).trans k1.gx) (fun h' ⟨h1, k1, k2, k3, k4⟩ => ⟨_, (k4.2.2.2 _ (by unfold wBlk rA kA; omega)).trans k1.w.gx⟩) (fun h' ⟨h1, k1, k2, k3, k4⟩ => kg_held 23 (k1.w.kept k4 (fun b hb => by unfold wBlk rA kA at hb; unfold wBlk; omega)) hT hA)).mono (fun v h' q0 => ?_)) (fun h1 hM1 => ?_) ?_
    · obtain ⟨q1, h1, k1, ⟨k2, k3, k4, k5⟩, ⟨c2, C2, nm2, g2, k6, k7⟩, k8⟩ := q0
      have z1 := k8.2.1
      have z2 := k8.2.2.1
      have oo : Old (kBlk x) h h' := ⟨k8.1.trans k2, by omega, fun b hb hn => (k8.2.2.2 b (by unfold wBlk; omega)).trans (k3 b hb (fun q => hn (by unfold kBlk; omega)))⟩
      have oS : ∀ a, wBlk h.2.1 a → S a = none := fun a ha => by
        cases z : S a with
        | none => rfl
        | some ob => have := (hst a ob z).2.2; unfold wBlk at ha; omega
      refine ⟨q1, ⟨S, some h.2.1, tk, zr, fr, p, e, o, zs, fs, b, fa, c, C, nm, g, k1.kp k8.1 (fun q hq => k8.2.2.2 q (by unfold kBlk at hq; unfold wBlk; omega)), ⟨hT, hst.kp oo (fun b hb => Or.inl (by unfold kBlk at hb; omega)), Or.inr ⟨h.2.1, c2, C2, nm2, g2, ⟨rfl, rfl⟩, ⟨hxy.2, by omega⟩, oS, k6, k7⟩, ?_⟩, hro, hpa, by omega, by omega⟩, ⟨k8.1.trans k2, fun b hb => ?_⟩, by omega, by omega⟩
      · rcases htk.kp oo (fun b r e hb => by have := htk.lo e; unfold rBlk at hb; unfold kBlk; omega) with t | ⟨r, b2, f2, c3, C3, nm3, g3, t1, t2, t3, t4, t5⟩
        · exact Or.inl t
        · have tr : r + 180 ≤ h.2.1 := by
            rcases htk with t | ⟨r2, b3, f3, c4, C4, nm4, g4, s1, s2, -⟩
            · rw [t] at t1; cases t1
            · rw [s1] at t1; cases t1; exact s2.2
          exact Or.inr ⟨r, b2, f2, c3, C3, nm3, g3, t1, t2, t3, fun w e => by cases e; exact Or.inr tr, t5⟩
      · unfold mBlk at hb
        exact (k8.2.2.2 b (by unfold wBlk; omega)).trans (k3 b (by omega) (by omega))
    · obtain ⟨f14, f16, was, pln, r14, f8, f9, f10, f11, f12, f13, s, r11, hB⟩ := id hM1
      refine ((m_image 0 hB hok).deeper (Nat.le_of_ble_eq_true rfl)).mono (fun v h2 q0 => ?_)
      obtain ⟨q1, q2, q3⟩ := q0
      exact ⟨q1, ⟨f14, f16, was, pln, r14, q2.isMs r11⟩, q3⟩
    · obtain ⟨⟨u1, u2⟩, -, u5⟩ := hSO.up
      exact ⟨⟨u1, u2⟩, ⟨Or.inr rfl, fun _ => ⟨u1, Int.le_refl _⟩⟩, u5⟩
  · have gw2 := w6.gx
    refine TWO.of (dm := 1000) (z := .int (J (cnt (heldB m) (m 1).toNat))) (f4' := 1) (m' := m) (kpm' := m) (pool' := pool) (zt' := zt) (ft' := ft) (f18' := f18) (pap' := pap) (rwd' := rwd) (rw' := rw) (Nat.le_of_ble_eq_true rfl) (Nat.le_of_ble_eq_true rfl) ⟨_, rfl⟩ hSZ hMH ((kg_imageS 13 hK hc hC (n1 := cnt (heldB m) (m 1).toNat) (R := fun h' => (∃ c' C' nm' g', isW h' w2 c' C' nm' g' ∧ CTR m pool S c' C' nm' g') ∧ Same (wBlk w2) h h') ((ctr_become 24 w6 (ctr_r w7) hK.w (Or.inr (by unfold rA kA; omega)) hT hok hTk).mono (fun v h' q => q)) (fun h' k => k.2.2.2.2 x (by unfold wBlk; omega)) (fun h' k => ⟨_, (k.2.2.2.2 _ (by unfold wBlk rA kA; omega)).trans hK.w.gx⟩) gw2 (fun h' k => kg_held 23 (hK.w.kept k.2 (fun b hb => by unfold wBlk rA kA at hb; unfold wBlk; omega)) hT hA)).mono (fun v h' q0 => ?_)) (fun h1 hM1 => ?_) ?_
    · obtain ⟨q1, ⟨c3, C3, nm3, g3, k6, k7⟩, k8⟩ := q0
      have z1 := k8.2.1
      have z2 := k8.2.2.1
      refine ⟨q1, ⟨S, some w2, tk, zr, fr, p, e, o, zs, fs, b, fa, c, C, nm, g, hK.kp k8.1 (fun q hq => k8.2.2.2 q (by unfold kBlk at hq; unfold wBlk; omega)), ⟨hT, hst.kp (Old.of k8) (fun b hb => Or.inr (w5 b hb)), Or.inr ⟨w2, c3, C3, nm3, g3, ⟨rfl, rfl⟩, ⟨w3, by omega⟩, w5, k6, k7⟩, htk.kp (Old.of k8) (fun b r e hb => ?_)⟩, hro, hpa, by omega, by omega⟩, ⟨k8.1, fun b hb => k8.2.2.2 b (by unfold mBlk at hb; unfold wBlk; omega)⟩, by omega, by omega⟩
      rcases htk with t | ⟨r2, b3, f3, c4, C4, nm4, g4, s1, s2, s3, s4, -⟩
      · rw [t] at e; cases e
      · rw [s1] at e; cases e
        have := s4 w2 rfl
        unfold rBlk at hb; unfold wBlk; omega
    · obtain ⟨f14, f16, was, pln, r14, f8, f9, f10, f11, f12, f13, s, r11, hB⟩ := id hM1
      refine ((m_image 0 hB hok).deeper (Nat.le_of_ble_eq_true rfl)).mono (fun v h2 q0 => ?_)
      obtain ⟨q1, q2, q3⟩ := q0
      exact ⟨q1, ⟨f14, f16, was, pln, r14, q2.isMs r11⟩, q3⟩
    · obtain ⟨⟨u1, u2⟩, -, u5⟩ := hSO.up
      exact ⟨⟨u1, u2⟩, ⟨Or.inr rfl, fun _ => ⟨u1, Int.le_refl _⟩⟩, u5⟩
set_option maxHeartbeats 4000000 in
set_option maxRecDepth 100000 in
theorem two_undo {sg : Bool} {G : mG} {l : Launch} (hG : G.2.map Prod.snd = mTy) {x y n0 : Nat} {h : mH} (hn0 : n0 ≤ 600) (hI : RI sg x y n0 h) : TWO sg G l x y n0 false mX10_undo mX11_undo [] h := by
  obtain ⟨f4, m, kpm, pool, zt, ft, f18, pap, rwd, rw, hCH, hMH, hSO, hSZ⟩ := hI
  obtain ⟨S, kp, tk, zr, fr, p, e, o, zs, fs, b, fa, c, C, nm, g, hK, ⟨hT, hst, hke, htk⟩, hro, hpa, hxy⟩ := id hCH
  obtain ⟨⟨hA, hPo⟩, hkp, hta, h18, hrw⟩ := id hSO
  obtain ⟨N, K, T, Z, F, hX⟩ := fx_of hT hA
  obtain ⟨⟨mN, cN, N90⟩, ⟨mK, cK, K1, K60⟩, ⟨mT, cT, T10⟩, ⟨cZ, Z150⟩, ⟨⟨c11, c12, c13⟩, F90, c4⟩, ⟨hO, hpR, hpO, hoO⟩, ⟨c8, c9, L0, L90⟩, ⟨hc, hC⟩, hst2, htp⟩ := id hX
  obtain ⟨⟨hInv, hsc, hnc, hns⟩, hTk, hm7, hm8⟩ := id hA
  have hok := hInv.1
  have hM := hok.1
  have hCR := hT.1
  have hcT := hCR.2.1
  have hcS := hCR.2.2.1
  have hcK := hCR.2.2.2.1
  have hcL := hCR.2.2.2.2.1
  have hst3 : ∀ t : Nat, (t : Int) < m 1 → 0 ≤ m (258 + 14 * t) ∧ m (258 + 14 * t) ≤ 2 := fun t ht => (hst2 t ht).1
  rcases id hke with ⟨rfl, e4⟩ | ⟨w2, c2, C2, nm2, g2, ⟨rfl, e4⟩, ⟨w3, w4⟩, w5, w6, w7⟩
  · have hokk : mOk kpm := by
      rcases hkp.1 with k | k
      · exact k.2
      · omega
    refine TWO.ask (z := .int (J (-3))) (Nat.le_of_ble_eq_true rfl) (Nat.le_of_ble_eq_true rfl) ⟨_, rfl⟩ hCH hMH hSO hSZ ((kg_undoN 0 hK hc hC).mono (fun v h' q0 => ?_)) (fun h1 f8 f9 f10 f11 f12 f13 f14 f16 was pln s r14 r11 hB => (m_undo 0 hB (Or.inl e4) hokk).mono (fun v h2 q0 => ?_))
    · exact q0
    · rcases q0 with ⟨-, q1⟩ | ⟨q1, -⟩
      · exact q1
      · omega
  · have gw2 := w6.gx
    obtain ⟨hAk, h8k⟩ := hkp.2 e4
    have hokk := hAk.1.1.1
    refine TWO.of (dm := 1000) (z := .int (J (cnt (heldB kpm) (kpm 1).toNat))) (f4' := f4) (m' := kpm) (kpm' := kpm) (pool' := pool) (zt' := zt) (ft' := ft) (f18' := f18) (pap' := pap) (rwd' := rwd) (rw' := rw) (Nat.le_of_ble_eq_true rfl) (Nat.le_of_ble_eq_true rfl) ⟨_, rfl⟩ hSZ hMH ((kg_undo 13 hK hc hC (n1 := cnt (heldB kpm) (kpm 1).toNat) (R := fun h' => (∃ c' C' nm' g', isW h' (rA (kA x 8) 1) c' C' nm' g' ∧ CTR kpm pool S c' C' nm' g') ∧ Same (wBlk (rA (kA x 8) 1)) h h') ((ctr_become 24 hK.w ⟨hc, hC⟩ w6 (Or.inl (by unfold rA kA; omega)) w7 hokk hAk.2.1).mono (fun v h' q => q)) (fun h' k => k.2.2.2.2 x (by unfold wBlk rA kA; omega)) (fun h' k => by obtain ⟨⟨c', C', nm', g', k1, k2⟩, -⟩ := k; exact ⟨_, k1.gx⟩) gw2 (fun h' k => by obtain ⟨⟨c', C', nm', g', k1, k2⟩, -⟩ := k; exact kg_held 23 k1 k2 hAk)).mono (fun v h' q0 => ?_)) (fun h1 hM1 => ?_) ?_
    · obtain ⟨q1, ⟨c3, C3, nm3, g3, k6, k7⟩, k8⟩ := q0
      exact ⟨q1, CP.of hxy (same_kw k8) (hK.ofW k8 k6) k7 hst hke htk hro hpa⟩
    · obtain ⟨f14, f16, was, pln, r14, f8, f9, f10, f11, f12, f13, s, r11, hB⟩ := id hM1
      refine ((m_undo 0 hB (Or.inr e4) hokk).deeper (Nat.le_of_ble_eq_true rfl)).mono (fun v h2 q0 => ?_)
      rcases q0 with ⟨q1, -⟩ | ⟨-, q1, q2, q3⟩
      · omega
      · exact ⟨q1, ⟨f14, f16, was, pln, r14, q2.isMs r11⟩, q3⟩
    · obtain ⟨⟨u1, u2⟩, ⟨u3, u4⟩, u5⟩ := hSO.up
      exact ⟨⟨(u4 e4).1, u2⟩, ⟨u3, fun _ => ⟨(u4 e4).1, Int.le_refl _⟩⟩, u5⟩
end mg_g8
section mg_g9
/-! ===== plan on both; what is told of the sheets and of steps, whatever it is ===== -/
theorem chL_mono {S S' : Nat → Option mO} (hS : ∀ a o, S a = some o → S' a = some o) : ∀ (n : Nat) (r : Option Nat), chL S n r → chL S' n r
  | 0, _, h => h
  | n + 1, _, ⟨a, kd, num, vl, y, inn, nx, e, h1, h2⟩ => ⟨a, kd, num, vl, y, inn, nx, e, hS a _ h1, chL_mono hS n nx h2⟩
theorem stK_o {S : Nat → Option mO} {sr : Nat → Int} {cl : Nat → Nat → Nat → Nat → Prop} {it : Bool} {o o' a hi p e : Nat} {nx : Option Nat} (k : stK S sr cl it o a nx hi p e o') : (∃ (kd num vl : Int) (y : Int64) (inn : Option Nat), S a = some (stO kd num vl y inn nx)) ∧ p < e := by
  rcases k with ⟨k, -⟩ | ⟨-, -, -, e1, -, num, vl, y, inn, h⟩ | ⟨-, -, -, e1, -, num, vl, y, inn, h⟩
  · refine ⟨?_, stepQ_lt (stQ_t (st := fun _ _ => True) (fun _ _ _ _ => trivial) k)⟩
    rcases k with ⟨-, num, vl, y, inn, h, -⟩ | ⟨-, -, -, -, q, b, y, nx2, h, -⟩
    · exact ⟨_, num, vl, y, inn, h⟩
    · exact ⟨_, _, _, y, _, h⟩
  · exact ⟨⟨_, num, vl, y, inn, h⟩, by omega⟩
  · exact ⟨⟨_, num, vl, y, inn, h⟩, by omega⟩
theorem stL_ch {S : Nat → Option mO} {sr : Nat → Int} : ∀ (n : Nat) (it : Bool) (o a hi p E : Nat), stL S sr n it o a hi p E → ∃ k, chL S k (some a) ∧ p + k ≤ E
  | 0, _, _, _, _, _, _, h => h.elim
  | n + 1, it, o, a, hi, p, E, h => by
    obtain ⟨nx, mid, e, o', h1, h2, h3, h4⟩ := h
    obtain ⟨⟨kd, num, vl, y, inn, h5⟩, h6⟩ := stK_o h1
    rcases h4 with ⟨rfl, rfl⟩ | ⟨h7, -, b, rfl, -, h8⟩
    · exact ⟨1, ⟨a, kd, num, vl, y, inn, none, rfl, h5, rfl⟩, by omega⟩
    · obtain ⟨k, k1, k2⟩ := stL_ch n it o' b hi (e + 1) E h8
      exact ⟨k + 1, ⟨a, kd, num, vl, y, inn, some b, rfl, h5, k1⟩, by omega⟩
set_option maxHeartbeats 4000000 in
set_option maxRecDepth 100000 in
theorem two_plan {sg : Bool} {G : mG} {l : Launch} (hG : G.2.map Prod.snd = mTy) {x y n0 : Nat} {h : mH} (hn0 : n0 ≤ 600) (hI : RI sg x y n0 h) {a : Int} (ha : InR a) {i : Int} (hi : InR i) : TWO sg G l x y n0 false mX10_plan mX11_plan [.int (J a), .int (J i)] h := by
  obtain ⟨f4, m, kpm, pool, zt, ft, f18, pap, rwd, rw, hCH, hMH, hSO, hSZ⟩ := hI
  obtain ⟨S, kp, tk, zr, fr, p, e, o, zs, fs, b, fa, c, C, nm, g, hK, ⟨hT, hst, hke, htk⟩, hro, hpa, hxy⟩ := id hCH
  obtain ⟨⟨hA, hPo⟩, hkp, hta, h18, hrw⟩ := id hSO
  obtain ⟨N, K, T, Z, F, hX⟩ := fx_of hT hA
  obtain ⟨⟨mN, cN, N90⟩, ⟨mK, cK, K1, K60⟩, ⟨mT, cT, T10⟩, ⟨cZ, Z150⟩, ⟨⟨c11, c12, c13⟩, F90, c4⟩, ⟨hO, hpR, hpO, hoO⟩, ⟨c8, c9, L0, L90⟩, ⟨hc, hC⟩, hst2, htp⟩ := id hX
  obtain ⟨⟨hInv, hsc, hnc, hns⟩, hTk, hm7, hm8⟩ := id hA
  have hok := hInv.1
  have hM := hok.1
  have hCR := hT.1
  have hcT := hCR.2.1
  have hcS := hCR.2.2.1
  have hcK := hCR.2.2.2.1
  have hcL := hCR.2.2.2.2.1
  have hst3 : ∀ t : Nat, (t : Int) < m 1 → 0 ≤ m (258 + 14 * t) ∧ m (258 + 14 * t) ≤ 2 := fun t ht => (hst2 t ht).1
  obtain ⟨f14, f16, was, pln, r14, f8, f9, f10, f11, f12, f13, s, r11, hB0⟩ := id hMH
  have h6 : InR (m 6 + 1) := by
    have := hInv.2.2.2.2.1
    exact ⟨by omega, by omega⟩
  by_cases w : 0 ≤ a ∧ a ≤ m 0 - 1
  · obtain ⟨p2, k2, pl, k90⟩ := all_plan hA w pln
    obtain ⟨q, rfl⟩ : ∃ q : Nat, a = q := ⟨a.toNat, by omega⟩
    obtain ⟨Z2, hE⟩ := hCR.2.2.2.2.2.1
    obtain rfl : Z2 = Z := by have := hE.1; omega
    have pv := plan_both (m := m) (c := c) (f := C 2) (N := N) (K := K) (Z := Z2) (fun a => ent_of hCR hok hsc hnc hst3 cZ mN mK) mN mK (fun c0 hc0 => by
      have y := hpO (c0 : Int) (by omega) (by omega)
      rw [show ((19 : Int) + 4 * (c0 : Int)).toNat = 19 + 4 * c0 by omega] at y
      exact y.2) (fun j hj hj2 => by
      rcases hE.2.2.1 j hj with ⟨t, e1, e2, -⟩ | ⟨s2, e1, e2, -⟩
      · omega
      · omega) (fun j k hj hk e => by
      have := hE.2.2.2.1 j k hj hk
      rw [e] at this
      omega) (by omega) K60 (s := q) (by omega) pl (i := i)
    refine TWO.of2 (dm := 1000) (z := .int (J (planV p2 k2 i))) (f4' := f4) (m' := m) (kpm' := kpm) (pool' := pool) (zt' := zt) (ft' := ft) (f18' := f18) (pap' := pap) (rwd' := rwd) (rw' := rw) (Nat.le_of_ble_eq_true rfl) (Nat.le_of_ble_eq_true rfl) ⟨_, rfl⟩ hSZ hMH ((kg_plan 0 hK hc hC hO cZ (Nat.le_of_lt Z150) ha hi).mono (fun v h' q0 => ?_)) (fun h1 m1e m1s => ?_) ?_
    · obtain ⟨q1, rfl⟩ := q0
      rw [if_pos ⟨by omega, by omega, by omega⟩, pv] at q1
      exact ⟨q1, CP.rf hCH⟩
    · have hB := hB0.kq m1e m1s
      refine ((m_plan hB hok h6 ha hi k90 (fun _ => pl)).deeper (Nat.le_of_ble_eq_true rfl)).mono (fun v h2 q0 => ?_)
      rcases q0 with ⟨q1, -⟩ | ⟨-, q1, q2, q3⟩
      · exact absurd w q1
      · exact ⟨q1, ⟨f14, (k2 : Int), was, p2, r14, q2.isMs r11⟩, q3⟩
    · exact hSO.up
  · skip
    refine TWO.ask (z := .int (J (-1))) (Nat.le_of_ble_eq_true rfl) (Nat.le_of_ble_eq_true rfl) ⟨_, rfl⟩ hCH hMH hSO hSZ ((kg_plan 0 hK hc hC hO cZ (Nat.le_of_lt Z150) ha hi).mono (fun v h' q0 => ?_)) (fun h1 f8 f9 f10 f11 f12 f13 f14 f16 was pln s r14 r11 hB => (m_plan (p' := pln) (k' := 0) hB hok h6 ha hi (by omega) (fun z => absurd z w)).mono (fun v h2 q0 => ?_))
    · rw [if_neg (fun z => w ⟨by omega, by omega⟩)] at q0
      exact q0
    · rcases q0 with q0 | q0
      · exact ⟨q0.2.1, q0.2.2⟩
      · exact absurd q0.1 w
end mg_g9
