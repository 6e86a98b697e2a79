/-! ===== the class: what its world answers ===== -/
/-- every owner is a scope's number, or none -/
def oOk (c : Nat → Int) : Prop := ∀ i, -5 ≤ ownF c i ∧ ownF c i ≤ 59
theorem ownF_t {c : Nat → Int} {t : Nat} (h : (t : Int) < c 0) (h2 : t < 90) : ownF c t = c (33 + 3 * t) := by
  unfold ownF; rw [if_neg (by omega), if_pos ⟨by omega, h, by omega⟩]; congr 1
theorem ownF_s {c : Nat → Int} {s : Nat} (h : (s : Int) < c 1) (h2 : s < 60) : ownF c (100 + (s : Int)) = c (305 + 3 * s) := by
  unfold ownF; rw [if_pos (by omega), if_pos ⟨by omega, by omega, by omega⟩]; congr 1; omega
set_option maxHeartbeats 4000000 in
set_option maxRecDepth 100000 in
theorem cn_isHeld {G : mG} {l : Launch} (d : Nat) {h : mH} {w : Nat} {c : Nat → Int} {C : Nat → Nat → Int} {nm : Nat → Int64} {g : Nat → Option Nat} (hW : isW h w c C nm g) (hc : ∀ q, InR (c q)) {t : Nat} (ht : (t : Int) < c 0) (h2 : t < 90) : RUNM G l (d + 1) mX9_isHeld [.ref w, .int (J (t : Int))] h (fun v h' => v = some (.int (J (b01 (c (32 + 3 * t) = 0)))) ∧ h' = h) := by
  refine (cw_isHeld d hW hc (i := (t : Int)) ⟨by omega, by omega⟩).mono (fun v h' q => ⟨?_, q.2⟩)
  rw [q.1, show ((t : Int)).toNat = t by omega]
  by_cases z : c (32 + 3 * t) = 0
  · rw [b01_t z, b01_t ⟨⟨by omega, ht, by omega⟩, z⟩]
  · rw [b01_f z, b01_f (fun g => z g.2)]
set_option maxHeartbeats 4000000 in
set_option maxRecDepth 100000 in
theorem cn_isOpen {G : mG} {l : Launch} (d : Nat) {h : mH} {w : Nat} {c : Nat → Int} {C : Nat → Nat → Int} {nm : Nat → Int64} {g : Nat → Option Nat} (hW : isW h w c C nm g) (hc : ∀ q, InR (c q)) {t : Nat} (ht : (t : Int) < c 1) (h2 : t < 60) : RUNM G l (d + 1) mX9_isOpen [.ref w, .int (J (t : Int))] h (fun v h' => v = some (.int (J (b01 (c (304 + 3 * t) = 0)))) ∧ h' = h) := by
  refine (cw_isOpen d hW hc (i := (t : Int)) ⟨by omega, by omega⟩).mono (fun v h' q => ⟨?_, q.2⟩)
  rw [q.1, show ((t : Int)).toNat = t by omega]
  by_cases z : c (304 + 3 * t) = 0
  · rw [b01_t z, b01_t ⟨⟨by omega, ht, by omega⟩, z⟩]
  · rw [b01_f z, b01_f (fun g => z g.2)]
set_option maxHeartbeats 4000000 in
set_option maxRecDepth 100000 in
theorem cn_isReady {G : mG} {l : Launch} (d : Nat) {h : mH} {w : Nat} {c : Nat → Int} {C : Nat → Nat → Int} {nm : Nat → Int64} {g : Nat → Option Nat} (hW : isW h w c C nm g) (hc : ∀ q, InR (c q)) {t : Nat} (ht : (t : Int) < c 2) (h2 : t < 10) : RUNM G l (d + 1) mX9_isReady [.ref w, .int (J (t : Int))] h (fun v h' => v = some (.int (J (b01 (c (489 + 9 * t) = 0)))) ∧ h' = h) := by
  refine (cw_isReady d hW hc (i := (t : Int)) ⟨by omega, by omega⟩).mono (fun v h' q => ⟨?_, q.2⟩)
  rw [q.1, show ((t : Int)).toNat = t by omega]
  by_cases z : c (489 + 9 * t) = 0
  · rw [b01_t z, b01_t ⟨⟨by omega, ht, by omega⟩, z⟩]
  · rw [b01_f z, b01_f (fun g => z g.2)]
set_option maxHeartbeats 4000000 in
set_option maxRecDepth 100000 in
theorem cn_ownerOf {G : mG} {l : Launch} (d : Nat) {h : mH} {w : Nat} {c : Nat → Int} {C : Nat → Nat → Int} {nm : Nat → Int64} {g : Nat → Option Nat} (hW : isW h w c C nm g) (hc : ∀ q, InR (c q)) {t : Nat} (ht : (t : Int) < c 0) (h2 : t < 90) : RUNM G l (d + 1) mX9_ownerOf [.ref w, .int (J (t : Int))] h (fun v h' => v = some (.int (J (c (33 + 3 * t)))) ∧ h' = h) := by
  have y := cw_ownerOf (G := G) (l := l) d hW hc (i := (t : Int)) ⟨by omega, by omega⟩
  rw [ownF_t ht h2] at y
  exact y
def wiL (c : Nat → Int) (o : Int) : Nat → Int → Bool
  | 0, _ => false
  | n + 1, s => if 0 ≤ s then (if s = o then true else wiL c o n (ownF c (100 + s))) else false
set_option maxHeartbeats 4000000 in
set_option maxRecDepth 100000 in
theorem L_isWithin {G : mG} {l : Launch} (d : Nat) {h : mH} {w : Nat} {c : Nat → Int} {C : Nat → Nat → Int} {nm : Nat → Int64} {g : Nat → Option Nat} (hW : isW h w c C nm g) (hc : ∀ q, InR (c q)) (hO : oOk c) {i o : Int} (ho : InR o) : ∀ (n k : Nat) (s : Int), k + n = 60 → -5 ≤ s → s ≤ 59 → RUN G l (d + 2) mX9_isWithin 5 [some (.ref w), some (.int (J i)), some (.int (J o)), some (.int (J s)), some (.int (J (k : Int)))] [] h (fun v h' => v = some (.int (J (bz (wiL c o n s)))) ∧ h' = h) := by
  intro n
  induction n with
  | zero =>
    intro k s hk h1 h2
    refine r_iload (pc := 5) dX9_isWithin_5 rfl ?_
    refine rj_bipush (pc := 7) dX9_isWithin_7 (by decide +kernel) ?_
    refine rj_icmp_ge (pc := 9) (tgt := 38) dX9_isWithin_9 (by decide) (by first | exact b01_r | exact bz_r | omega | (constructor <;> omega) | apply_assumption | (apply atF_r; assumption) | fail "no range") (by first | exact b01_r | exact bz_r | omega | (constructor <;> omega) | apply_assumption | (apply atF_r; assumption) | fail "no range") (fun c_9 => ?_) (fun c_9 => ?_)
    · refine rj_iconst (pc := 38) dX9_isWithin_38 ?_
      refine r_ireturn (pc := 39) .boolean dX9_isWithin_39 rfl (by first | exact nar_J0 | exact nar_J1 | exact nar_b01 | exact nar_bz) ?_
      exact ⟨rfl, rfl⟩
    · exfalso; omega
  | succ n ih =>
    intro k s hk h1 h2
    refine r_iload (pc := 5) dX9_isWithin_5 rfl ?_
    refine rj_bipush (pc := 7) dX9_isWithin_7 (by decide +kernel) ?_
    refine rj_icmp_ge (pc := 9) (tgt := 38) dX9_isWithin_9 (by decide) (by first | exact b01_r | exact bz_r | omega | (constructor <;> omega) | apply_assumption | (apply atF_r; assumption) | fail "no range") (by first | exact b01_r | exact bz_r | omega | (constructor <;> omega) | apply_assumption | (apply atF_r; assumption) | fail "no range") (fun c_9 => ?_) (fun c_9 => ?_)
    · refine rj_iconst (pc := 38) dX9_isWithin_38 ?_
      refine r_ireturn (pc := 39) .boolean dX9_isWithin_39 rfl (by first | exact nar_J0 | exact nar_J1 | exact nar_b01 | exact nar_bz) ?_
      first | exact absurd c_9 (by omega) | exact ⟨by rw [wiL, if_pos (by omega), if_pos c_18]; rfl, rfl⟩ | exact ⟨by rw [wiL, if_neg (by omega)]; rfl, rfl⟩
    · refine r_iload_n (pc := 12) dX9_isWithin_12 rfl ?_
      refine rj_if_lt (pc := 13) (tgt := 38) dX9_isWithin_13 (by decide) (by first | exact b01_r | exact bz_r | omega | (constructor <;> omega) | apply_assumption | (apply atF_r; assumption) | fail "no range") (fun c_13 => ?_) (fun c_13 => ?_)
      · refine rj_iconst (pc := 38) dX9_isWithin_38 ?_
        refine r_ireturn (pc := 39) .boolean dX9_isWithin_39 rfl (by first | exact nar_J0 | exact nar_J1 | exact nar_b01 | exact nar_bz) ?_
        first | exact absurd c_9 (by omega) | exact ⟨by rw [wiL, if_pos (by omega), if_pos c_18]; rfl, rfl⟩ | exact ⟨by rw [wiL, if_neg (by omega)]; rfl, rfl⟩
      · refine r_iload_n (pc := 16) dX9_isWithin_16 rfl ?_
        refine r_iload_n (pc := 17) dX9_isWithin_17 rfl ?_
        refine rj_icmp_ne (pc := 18) (tgt := 23) dX9_isWithin_18 (by decide) (by first | exact b01_r | exact bz_r | omega | (constructor <;> omega) | apply_assumption | (apply atF_r; assumption) | fail "no range") (by first | exact b01_r | exact bz_r | omega | (constructor <;> omega) | apply_assumption | (apply atF_r; assumption) | fail "no range") (fun c_18 => ?_) (fun c_18 => ?_)
        · refine r_aload_n (pc := 23) dX9_isWithin_23 rfl (by first | rfl | exact isRefV_rf _) ?_
          refine rj_bipush (pc := 24) dX9_isWithin_24 (by decide +kernel) ?_
          refine r_iload_n (pc := 26) dX9_isWithin_26 rfl ?_
          refine rj_iadd (pc := 27) dX9_isWithin_27 ?_
          refine r_callV1 (pc := 28) dX9_isWithin_28 qX9_ownerOf kX9_151 vX9_ownerOf (by first | assumption | exact isI.gx (by assumption) | exact isI.gc (by assumption) | exact isW.gx (by assumption) | exact isW.gF (by assumption) | exact isW.gT (by assumption) (by omega) | exact isW.gS (by assumption) (by omega) | exact isW.gK (by assumption) (by omega) | exact isW.g1 (by assumption) | exact isW.g2 (by assumption) | exact isW.g3 (by assumption) | exact isI.gx (isW.i0 (by assumption)) | exact isI.gc (isW.i0 (by assumption)) | exact isI.gx (isW.i1 (by assumption)) | exact isI.gc (isW.i1 (by assumption)) | exact isI.gx (isW.i2 (by assumption)) | exact isI.gc (isW.i2 (by assumption)) | exact isI.gx (isW.i3 (by assumption)) | exact isI.gc (isW.i3 (by assumption)) | exact isI.gx (isW.i4 (by assumption)) | exact isI.gc (isW.i4 (by assumption)) | exact isI.gx (isW.i5 (by assumption)) | exact isI.gc (isW.i5 (by assumption)) | exact isR.gx (by assumption) | exact isRd.gx (by assumption) | exact isSp.gx (by assumption) | exact isI.gx (isR.i (by assumption)) | exact isI.gx (isRd.i (by assumption)) | exact isI.gc (isRd.i (by assumption)) | exact isI.gx (isSp.i (by assumption)) | exact isW.gx (isR.w (by assumption)) | exact isW.gF (isR.w (by assumption)) | fail "no such object") rfl rfl (Nat.le_of_ble_eq_true rfl) (cw_ownerOf _ hW hc (i := 100 + s) ⟨by omega, by omega⟩) (fun v_28 h_28 q_28 => ?_)
          obtain ⟨rfl, rfl⟩ := q_28
          refine r_istore_n (pc := 31) dX9_isWithin_31 (Nat.le_of_ble_eq_true rfl) ?_
          dsimp only [lsSt, List.set, mLs, mEnt]
          refine rj_iinc (pc := 32) dX9_isWithin_32 (Nat.le_of_ble_eq_true rfl) rfl ?_
          dsimp only [lsSt, List.set, mLs, mEnt]
          refine r_goto (pc := 35) (tgt := 5) dX9_isWithin_35 (by decide) ?_
          have z := hO (100 + s)
          have y := ih (k + 1) _ (by omega) z.1 z.2
          rw [show ((k + 1 : Nat) : Int) = (k : Int) + 1 by omega] at y
          rw [wiL, if_pos (by omega), if_neg c_18]
          exact y
        · refine rj_iconst (pc := 21) dX9_isWithin_21 ?_
          refine r_ireturn (pc := 22) .boolean dX9_isWithin_22 rfl (by first | exact nar_J0 | exact nar_J1 | exact nar_b01 | exact nar_bz) ?_
          first | exact absurd c_9 (by omega) | exact ⟨by rw [wiL, if_pos (by omega), if_pos c_18]; rfl, rfl⟩ | exact ⟨by rw [wiL, if_neg (by omega)]; rfl, rfl⟩
set_option maxHeartbeats 4000000 in
set_option maxRecDepth 100000 in
theorem cq_isWithin {G : mG} {l : Launch} (d : Nat) {h : mH} {w : Nat} {c : Nat → Int} {C : Nat → Nat → Int} {nm : Nat → Int64} {g : Nat → Option Nat} (hW : isW h w c C nm g) (hc : ∀ q, InR (c q)) (hO : oOk c) {i o : Int} (h1 : -5 ≤ i) (h2 : i ≤ 59) (ho : InR o) : RUNM G l (d + 2) mX9_isWithin [.ref w, .int (J i), .int (J o)] h (fun v h' => v = some (.int (J (bz (wiL c o 60 i)))) ∧ h' = h) := by
  refine RUNM.of (by decide +kernel) (Nat.le_of_ble_eq_true rfl) ?_
  refine r_iload_n (pc := 0) dX9_isWithin_0 rfl ?_
  refine r_istore_n (pc := 1) dX9_isWithin_1 (Nat.le_of_ble_eq_true rfl) ?_
  dsimp only [lsSt, List.set, mLs, mEnt]
  refine rj_iconst (pc := 2) dX9_isWithin_2 ?_
  refine r_istore (pc := 3) dX9_isWithin_3 (Nat.le_of_ble_eq_true rfl) ?_
  dsimp only [lsSt, List.set, mLs, mEnt]
  exact L_isWithin d hW hc hO ho 60 0 i (by omega) h1 h2
def saL (c : Nat → Int) : Nat → Int → Int
  | 0, _ => 0
  | n + 1, s => if 0 ≤ s then 1 + saL c n (ownF c (100 + s)) else 0
set_option maxHeartbeats 4000000 in
set_option maxRecDepth 100000 in
theorem L_scopesAbove {G : mG} {l : Launch} (d : Nat) {h : mH} {w : Nat} {c : Nat → Int} {C : Nat → Nat → Int} {nm : Nat → Int64} {g : Nat → Option Nat} (hW : isW h w c C nm g) (hc : ∀ q, InR (c q)) (hO : oOk c) {i : Int} : ∀ (n k : Nat) (s : Int), k + n = 60 → -5 ≤ s → s ≤ 59 → RUN G l (d + 2) mX9_scopesAbove 11 [some (.ref w), some (.int (J i)), some (.int (J (k : Int))), some (.int (J s))] [] h (fun v h' => v = some (.int (J ((k : Int) + saL c n s))) ∧ h' = h) := by
  intro n
  induction n with
  | zero =>
    intro k s hk h1 h2
    refine r_iload_n (pc := 11) dX9_scopesAbove_11 rfl ?_
    refine rj_if_lt (pc := 12) (tgt := 36) dX9_scopesAbove_12 (by decide) (by first | exact b01_r | exact bz_r | omega | (constructor <;> omega) | apply_assumption | (apply atF_r; assumption) | fail "no range") (fun c_12 => ?_) (fun c_12 => ?_)
    · refine r_iload_n (pc := 36) dX9_scopesAbove_36 rfl ?_
      refine r_ireturn (pc := 37) .int dX9_scopesAbove_37 rfl (by first | rfl | assumption) ?_
      exact ⟨by unfold saL; rw [Int.add_zero], rfl⟩
    · refine r_iload_n (pc := 15) dX9_scopesAbove_15 rfl ?_
      refine rj_bipush (pc := 16) dX9_scopesAbove_16 (by decide +kernel) ?_
      refine rj_icmp_ge (pc := 18) (tgt := 36) dX9_scopesAbove_18 (by decide) (by first | exact b01_r | exact bz_r | omega | (constructor <;> omega) | apply_assumption | (apply atF_r; assumption) | fail "no range") (by first | exact b01_r | exact bz_r | omega | (constructor <;> omega) | apply_assumption | (apply atF_r; assumption) | fail "no range") (fun c_18 => ?_) (fun c_18 => ?_)
      · refine r_iload_n (pc := 36) dX9_scopesAbove_36 rfl ?_
        refine r_ireturn (pc := 37) .int dX9_scopesAbove_37 rfl (by first | rfl | assumption) ?_
        exact ⟨by unfold saL; rw [Int.add_zero], rfl⟩
      · exfalso; omega
  | succ n ih =>
    intro k s hk h1 h2
    refine r_iload_n (pc := 11) dX9_scopesAbove_11 rfl ?_
    refine rj_if_lt (pc := 12) (tgt := 36) dX9_scopesAbove_12 (by decide) (by first | exact b01_r | exact bz_r | omega | (constructor <;> omega) | apply_assumption | (apply atF_r; assumption) | fail "no range") (fun c_12 => ?_) (fun c_12 => ?_)
    · refine r_iload_n (pc := 36) dX9_scopesAbove_36 rfl ?_
      refine r_ireturn (pc := 37) .int dX9_scopesAbove_37 rfl (by first | rfl | assumption) ?_
      first | (exfalso; omega) | exact ⟨by rw [saL, if_neg (by omega), Int.add_zero], rfl⟩
    · refine r_iload_n (pc := 15) dX9_scopesAbove_15 rfl ?_
      refine rj_bipush (pc := 16) dX9_scopesAbove_16 (by decide +kernel) ?_
      refine rj_icmp_ge (pc := 18) (tgt := 36) dX9_scopesAbove_18 (by decide) (by first | exact b01_r | exact bz_r | omega | (constructor <;> omega) | apply_assumption | (apply atF_r; assumption) | fail "no range") (by first | exact b01_r | exact bz_r | omega | (constructor <;> omega) | apply_assumption | (apply atF_r; assumption) | fail "no range") (fun c_18 => ?_) (fun c_18 => ?_)
      · refine r_iload_n (pc := 36) dX9_scopesAbove_36 rfl ?_
        refine r_ireturn (pc := 37) .int dX9_scopesAbove_37 rfl (by first | rfl | assumption) ?_
        first | (exfalso; omega) | exact ⟨by rw [saL, if_neg (by omega), Int.add_zero], rfl⟩
      · refine r_aload_n (pc := 21) dX9_scopesAbove_21 rfl (by first | rfl | exact isRefV_rf _) ?_
        refine rj_bipush (pc := 22) dX9_scopesAbove_22 (by decide +kernel) ?_
        refine r_iload_n (pc := 24) dX9_scopesAbove_24 rfl ?_
        refine rj_iadd (pc := 25) dX9_scopesAbove_25 ?_
        refine r_callV1 (pc := 26) dX9_scopesAbove_26 qX9_ownerOf kX9_151 vX9_ownerOf (by first | assumption | exact isI.gx (by assumption) | exact isI.gc (by assumption) | exact isW.gx (by assumption) | exact isW.gF (by assumption) | exact isW.gT (by assumption) (by omega) | exact isW.gS (by assumption) (by omega) | exact isW.gK (by assumption) (by omega) | exact isW.g1 (by assumption) | exact isW.g2 (by assumption) | exact isW.g3 (by assumption) | exact isI.gx (isW.i0 (by assumption)) | exact isI.gc (isW.i0 (by assumption)) | exact isI.gx (isW.i1 (by assumption)) | exact isI.gc (isW.i1 (by assumption)) | exact isI.gx (isW.i2 (by assumption)) | exact isI.gc (isW.i2 (by assumption)) | exact isI.gx (isW.i3 (by assumption)) | exact isI.gc (isW.i3 (by assumption)) | exact isI.gx (isW.i4 (by assumption)) | exact isI.gc (isW.i4 (by assumption)) | exact isI.gx (isW.i5 (by assumption)) | exact isI.gc (isW.i5 (by assumption)) | exact isR.gx (by assumption) | exact isRd.gx (by assumption) | exact isSp.gx (by assumption) | exact isI.gx (isR.i (by assumption)) | exact isI.gx (isRd.i (by assumption)) | exact isI.gc (isRd.i (by assumption)) | exact isI.gx (isSp.i (by assumption)) | exact isW.gx (isR.w (by assumption)) | exact isW.gF (isR.w (by assumption)) | fail "no such object") rfl rfl (Nat.le_of_ble_eq_true rfl) (cw_ownerOf _ hW hc (i := 100 + s) ⟨by omega, by omega⟩) (fun v_26 h_26 q_26 => ?_)
        obtain ⟨rfl, rfl⟩ := q_26
        refine r_istore_n (pc := 29) dX9_scopesAbove_29 (Nat.le_of_ble_eq_true rfl) ?_
        dsimp only [lsSt, List.set, mLs, mEnt]
        refine rj_iinc (pc := 30) dX9_scopesAbove_30 (Nat.le_of_ble_eq_true rfl) rfl ?_
        dsimp only [lsSt, List.set, mLs, mEnt]
        refine r_goto (pc := 33) (tgt := 11) dX9_scopesAbove_33 (by decide) ?_
        have z := hO (100 + s)
        have y := ih (k + 1) _ (by omega) z.1 z.2
        rw [show ((k + 1 : Nat) : Int) = (k : Int) + 1 by omega] at y
        rw [show (k : Int) + saL c (n + 1) s = (k : Int) + 1 + saL c n (ownF c (100 + s)) by rw [saL, if_pos (by omega)]; omega]
        exact y
set_option maxHeartbeats 4000000 in
set_option maxRecDepth 100000 in
theorem cq_scopesAbove {G : mG} {l : Launch} (d : Nat) {h : mH} {w : Nat} {c : Nat → Int} {C : Nat → Nat → Int} {nm : Nat → Int64} {g : Nat → Option Nat} (hW : isW h w c C nm g) (hc : ∀ q, InR (c q)) (hO : oOk c) {i : Int} (h1 : 0 ≤ i) (h2 : i ≤ 59) : RUNM G l (d + 2) mX9_scopesAbove [.ref w, .int (J i)] h (fun v h' => v = some (.int (J (saL c 60 (ownF c (100 + i))))) ∧ h' = h) := by
  refine RUNM.of (by decide +kernel) (Nat.le_of_ble_eq_true rfl) ?_
  refine rj_iconst (pc := 0) dX9_scopesAbove_0 ?_
  refine r_istore_n (pc := 1) dX9_scopesAbove_1 (Nat.le_of_ble_eq_true rfl) ?_
  dsimp only [lsSt, List.set, mLs, mEnt]
  refine r_aload_n (pc := 2) dX9_scopesAbove_2 rfl (by first | rfl | exact isRefV_rf _) ?_
  refine rj_bipush (pc := 3) dX9_scopesAbove_3 (by decide +kernel) ?_
  refine r_iload_n (pc := 5) dX9_scopesAbove_5 rfl ?_
  refine rj_iadd (pc := 6) dX9_scopesAbove_6 ?_
  refine r_callV1 (pc := 7) dX9_scopesAbove_7 qX9_ownerOf kX9_151 vX9_ownerOf (by first | assumption | exact isI.gx (by assumption) | exact isI.gc (by assumption) | exact isW.gx (by assumption) | exact isW.gF (by assumption) | exact isW.gT (by assumption) (by omega) | exact isW.gS (by assumption) (by omega) | exact isW.gK (by assumption) (by omega) | exact isW.g1 (by assumption) | exact isW.g2 (by assumption) | exact isW.g3 (by assumption) | exact isI.gx (isW.i0 (by assumption)) | exact isI.gc (isW.i0 (by assumption)) | exact isI.gx (isW.i1 (by assumption)) | exact isI.gc (isW.i1 (by assumption)) | exact isI.gx (isW.i2 (by assumption)) | exact isI.gc (isW.i2 (by assumption)) | exact isI.gx (isW.i3 (by assumption)) | exact isI.gc (isW.i3 (by assumption)) | exact isI.gx (isW.i4 (by assumption)) | exact isI.gc (isW.i4 (by assumption)) | exact isI.gx (isW.i5 (by assumption)) | exact isI.gc (isW.i5 (by assumption)) | exact isR.gx (by assumption) | exact isRd.gx (by assumption) | exact isSp.gx (by assumption) | exact isI.gx (isR.i (by assumption)) | exact isI.gx (isRd.i (by assumption)) | exact isI.gc (isRd.i (by assumption)) | exact isI.gx (isSp.i (by assumption)) | exact isW.gx (isR.w (by assumption)) | exact isW.gF (isR.w (by assumption)) | fail "no such object") rfl rfl (Nat.le_of_ble_eq_true rfl) (cw_ownerOf _ hW hc (i := 100 + i) ⟨by omega, by omega⟩) (fun v_7 h_7 q_7 => ?_)
  obtain ⟨rfl, rfl⟩ := q_7
  refine r_istore_n (pc := 10) dX9_scopesAbove_10 (Nat.le_of_ble_eq_true rfl) ?_
  dsimp only [lsSt, List.set, mLs, mEnt]
  have z := hO (100 + i)
  have y := L_scopesAbove (G := G) (l := l) d hW hc hO (i := i) 60 0 _ (by omega) z.1 z.2
  rw [show ((0 : Nat) : Int) + saL c 60 (ownF c (100 + i)) = saL c 60 (ownF c (100 + i)) from Int.zero_add _] at y
  exact y
def hwB (c : Nat → Int) (i : Int) (t : Nat) : Bool := decide (c (32 + 3 * t) = 0 ∧ wiL c i 60 (c (33 + 3 * t)) = true)
set_option maxHeartbeats 4000000 in
set_option maxRecDepth 100000 in
theorem L_heldWithin {G : mG} {l : Launch} (d : Nat) {h : mH} {w : Nat} {c : Nat → Int} {C : Nat → Nat → Int} {nm : Nat → Int64} {g : Nat → Option Nat} (hW : isW h w c C nm g) (hc : ∀ q, InR (c q)) (hO : oOk c) {N : Nat} (hN : c 0 = (N : Int)) (hcap : N ≤ 90) {i : Int} (hi : InR i) : ∀ k t : Nat, t + k = N → RUN G l (d + 3) mX9_heldWithin 4 [some (.ref w), some (.int (J i)), some (.int (J (cnt (hwB c i) t))), some (.int (J (t : Int)))] [] h (fun v h' => v = some (.int (J (cnt (hwB c i) N))) ∧ h' = h) := by
  intro k
  induction k with
  | zero =>
    intro t ht
    refine r_iload_n (pc := 4) dX9_heldWithin_4 rfl ?_
    refine r_aload_n (pc := 5) dX9_heldWithin_5 rfl (by first | rfl | exact isRefV_rf _) ?_
    refine r_getf (pc := 6) dX9_heldWithin_6 fX9_71 (by first | assumption | exact isI.gx (by assumption) | exact isI.gc (by assumption) | exact isW.gx (by assumption) | exact isW.gF (by assumption) | exact isW.gT (by assumption) (by omega) | exact isW.gS (by assumption) (by omega) | exact isW.gK (by assumption) (by omega) | exact isW.g1 (by assumption) | exact isW.g2 (by assumption) | exact isW.g3 (by assumption) | exact isI.gx (isW.i0 (by assumption)) | exact isI.gc (isW.i0 (by assumption)) | exact isI.gx (isW.i1 (by assumption)) | exact isI.gc (isW.i1 (by assumption)) | exact isI.gx (isW.i2 (by assumption)) | exact isI.gc (isW.i2 (by assumption)) | exact isI.gx (isW.i3 (by assumption)) | exact isI.gc (isW.i3 (by assumption)) | exact isI.gx (isW.i4 (by assumption)) | exact isI.gc (isW.i4 (by assumption)) | exact isI.gx (isW.i5 (by assumption)) | exact isI.gc (isW.i5 (by assumption)) | exact isR.gx (by assumption) | exact isRd.gx (by assumption) | exact isSp.gx (by assumption) | exact isI.gx (isR.i (by assumption)) | exact isI.gx (isRd.i (by assumption)) | exact isI.gc (isRd.i (by assumption)) | exact isI.gx (isSp.i (by assumption)) | exact isW.gx (isR.w (by assumption)) | exact isW.gF (isR.w (by assumption)) | fail "no such object") (by rfl) ?_
    refine rj_icmp_ge (pc := 9) (tgt := 42) dX9_heldWithin_9 (by decide) (by first | exact b01_r | exact bz_r | omega | (constructor <;> omega) | apply_assumption | (apply atF_r; assumption) | fail "no range") (by first | exact b01_r | exact bz_r | omega | (constructor <;> omega) | apply_assumption | (apply atF_r; assumption) | fail "no range") (fun c_9 => ?_) (fun c_9 => ?_)
    · refine r_iload_n (pc := 42) dX9_heldWithin_42 rfl ?_
      refine r_ireturn (pc := 43) .int dX9_heldWithin_43 rfl (by first | rfl | assumption) ?_
      obtain rfl : t = N := by omega
      exact ⟨rfl, rfl⟩
    · exfalso; omega
  | succ k ih =>
    intro t ht
    refine r_iload_n (pc := 4) dX9_heldWithin_4 rfl ?_
    refine r_aload_n (pc := 5) dX9_heldWithin_5 rfl (by first | rfl | exact isRefV_rf _) ?_
    refine r_getf (pc := 6) dX9_heldWithin_6 fX9_71 (by first | assumption | exact isI.gx (by assumption) | exact isI.gc (by assumption) | exact isW.gx (by assumption) | exact isW.gF (by assumption) | exact isW.gT (by assumption) (by omega) | exact isW.gS (by assumption) (by omega) | exact isW.gK (by assumption) (by omega) | exact isW.g1 (by assumption) | exact isW.g2 (by assumption) | exact isW.g3 (by assumption) | exact isI.gx (isW.i0 (by assumption)) | exact isI.gc (isW.i0 (by assumption)) | exact isI.gx (isW.i1 (by assumption)) | exact isI.gc (isW.i1 (by assumption)) | exact isI.gx (isW.i2 (by assumption)) | exact isI.gc (isW.i2 (by assumption)) | exact isI.gx (isW.i3 (by assumption)) | exact isI.gc (isW.i3 (by assumption)) | exact isI.gx (isW.i4 (by assumption)) | exact isI.gc (isW.i4 (by assumption)) | exact isI.gx (isW.i5 (by assumption)) | exact isI.gc (isW.i5 (by assumption)) | exact isR.gx (by assumption) | exact isRd.gx (by assumption) | exact isSp.gx (by assumption) | exact isI.gx (isR.i (by assumption)) | exact isI.gx (isRd.i (by assumption)) | exact isI.gc (isRd.i (by assumption)) | exact isI.gx (isSp.i (by assumption)) | exact isW.gx (isR.w (by assumption)) | exact isW.gF (isR.w (by assumption)) | fail "no such object") (by rfl) ?_
    refine rj_icmp_ge (pc := 9) (tgt := 42) dX9_heldWithin_9 (by decide) (by first | exact b01_r | exact bz_r | omega | (constructor <;> omega) | apply_assumption | (apply atF_r; assumption) | fail "no range") (by first | exact b01_r | exact bz_r | omega | (constructor <;> omega) | apply_assumption | (apply atF_r; assumption) | fail "no range") (fun c_9 => ?_) (fun c_9 => ?_)
    · refine r_iload_n (pc := 42) dX9_heldWithin_42 rfl ?_
      refine r_ireturn (pc := 43) .int dX9_heldWithin_43 rfl (by first | rfl | assumption) ?_
      exfalso; omega
    · refine r_aload_n (pc := 12) dX9_heldWithin_12 rfl (by first | rfl | exact isRefV_rf _) ?_
      refine r_iload_n (pc := 13) dX9_heldWithin_13 rfl ?_
      refine r_callV1 (pc := 14) dX9_heldWithin_14 qX9_isHeld kX9_157 vX9_isHeld (by first | assumption | exact isI.gx (by assumption) | exact isI.gc (by assumption) | exact isW.gx (by assumption) | exact isW.gF (by assumption) | exact isW.gT (by assumption) (by omega) | exact isW.gS (by assumption) (by omega) | exact isW.gK (by assumption) (by omega) | exact isW.g1 (by assumption) | exact isW.g2 (by assumption) | exact isW.g3 (by assumption) | exact isI.gx (isW.i0 (by assumption)) | exact isI.gc (isW.i0 (by assumption)) | exact isI.gx (isW.i1 (by assumption)) | exact isI.gc (isW.i1 (by assumption)) | exact isI.gx (isW.i2 (by assumption)) | exact isI.gc (isW.i2 (by assumption)) | exact isI.gx (isW.i3 (by assumption)) | exact isI.gc (isW.i3 (by assumption)) | exact isI.gx (isW.i4 (by assumption)) | exact isI.gc (isW.i4 (by assumption)) | exact isI.gx (isW.i5 (by assumption)) | exact isI.gc (isW.i5 (by assumption)) | exact isR.gx (by assumption) | exact isRd.gx (by assumption) | exact isSp.gx (by assumption) | exact isI.gx (isR.i (by assumption)) | exact isI.gx (isRd.i (by assumption)) | exact isI.gc (isRd.i (by assumption)) | exact isI.gx (isSp.i (by assumption)) | exact isW.gx (isR.w (by assumption)) | exact isW.gF (isR.w (by assumption)) | fail "no such object") rfl rfl (Nat.le_of_ble_eq_true rfl) (cn_isHeld _ hW hc (t := t) (by omega) (by omega)) (fun v_14 h_14 q_14 => ?_)
      obtain ⟨rfl, rfl⟩ := q_14
      refine rj_if_eq (pc := 17) (tgt := 36) dX9_heldWithin_17 (by decide) (by first | exact b01_r | exact bz_r | omega | (constructor <;> omega) | apply_assumption | (apply atF_r; assumption) | fail "no range") (fun c_17 => ?_) (fun c_17 => ?_)
      · try simp only [b01_0, bz_0, Classical.not_not] at c_17
        refine rj_iinc (pc := 36) dX9_heldWithin_36 (Nat.le_of_ble_eq_true rfl) rfl ?_
        dsimp only [lsSt, List.set, mLs, mEnt]
        refine r_goto (pc := 39) (tgt := 4) dX9_heldWithin_39 (by decide) ?_
        have z := ih (t + 1) (by omega)
        rw [show ((t + 1 : Nat) : Int) = (t : Int) + 1 by omega] at z
        rw [← cnt_f (p := hwB c i) (n := t) (decide_eq_false (fun g => c_17 g.1))] at z
        rw [Int.add_zero] at z
        exact z
      · try simp only [b01_0, bz_0, Classical.not_not] at c_17
        refine r_aload_n (pc := 20) dX9_heldWithin_20 rfl (by first | rfl | exact isRefV_rf _) ?_
        refine r_aload_n (pc := 21) dX9_heldWithin_21 rfl (by first | rfl | exact isRefV_rf _) ?_
        refine r_iload_n (pc := 22) dX9_heldWithin_22 rfl ?_
        refine r_callV1 (pc := 23) dX9_heldWithin_23 qX9_ownerOf kX9_151 vX9_ownerOf (by first | assumption | exact isI.gx (by assumption) | exact isI.gc (by assumption) | exact isW.gx (by assumption) | exact isW.gF (by assumption) | exact isW.gT (by assumption) (by omega) | exact isW.gS (by assumption) (by omega) | exact isW.gK (by assumption) (by omega) | exact isW.g1 (by assumption) | exact isW.g2 (by assumption) | exact isW.g3 (by assumption) | exact isI.gx (isW.i0 (by assumption)) | exact isI.gc (isW.i0 (by assumption)) | exact isI.gx (isW.i1 (by assumption)) | exact isI.gc (isW.i1 (by assumption)) | exact isI.gx (isW.i2 (by assumption)) | exact isI.gc (isW.i2 (by assumption)) | exact isI.gx (isW.i3 (by assumption)) | exact isI.gc (isW.i3 (by assumption)) | exact isI.gx (isW.i4 (by assumption)) | exact isI.gc (isW.i4 (by assumption)) | exact isI.gx (isW.i5 (by assumption)) | exact isI.gc (isW.i5 (by assumption)) | exact isR.gx (by assumption) | exact isRd.gx (by assumption) | exact isSp.gx (by assumption) | exact isI.gx (isR.i (by assumption)) | exact isI.gx (isRd.i (by assumption)) | exact isI.gc (isRd.i (by assumption)) | exact isI.gx (isSp.i (by assumption)) | exact isW.gx (isR.w (by assumption)) | exact isW.gF (isR.w (by assumption)) | fail "no such object") rfl rfl (Nat.le_of_ble_eq_true rfl) (cn_ownerOf _ hW hc (t := t) (by omega) (by omega)) (fun v_23 h_23 q_23 => ?_)
        obtain ⟨rfl, rfl⟩ := q_23
        refine r_iload_n (pc := 26) dX9_heldWithin_26 rfl ?_
        refine r_callV2 (pc := 27) dX9_heldWithin_27 qX9_isWithin kX9_164 vX9_isWithin (by first | assumption | exact isI.gx (by assumption) | exact isI.gc (by assumption) | exact isW.gx (by assumption) | exact isW.gF (by assumption) | exact isW.gT (by assumption) (by omega) | exact isW.gS (by assumption) (by omega) | exact isW.gK (by assumption) (by omega) | exact isW.g1 (by assumption) | exact isW.g2 (by assumption) | exact isW.g3 (by assumption) | exact isI.gx (isW.i0 (by assumption)) | exact isI.gc (isW.i0 (by assumption)) | exact isI.gx (isW.i1 (by assumption)) | exact isI.gc (isW.i1 (by assumption)) | exact isI.gx (isW.i2 (by assumption)) | exact isI.gc (isW.i2 (by assumption)) | exact isI.gx (isW.i3 (by assumption)) | exact isI.gc (isW.i3 (by assumption)) | exact isI.gx (isW.i4 (by assumption)) | exact isI.gc (isW.i4 (by assumption)) | exact isI.gx (isW.i5 (by assumption)) | exact isI.gc (isW.i5 (by assumption)) | exact isR.gx (by assumption) | exact isRd.gx (by assumption) | exact isSp.gx (by assumption) | exact isI.gx (isR.i (by assumption)) | exact isI.gx (isRd.i (by assumption)) | exact isI.gc (isRd.i (by assumption)) | exact isI.gx (isSp.i (by assumption)) | exact isW.gx (isR.w (by assumption)) | exact isW.gF (isR.w (by assumption)) | fail "no such object") rfl rfl (Nat.le_of_ble_eq_true rfl) (by have z := hO (t : Int); rw [ownF_t (by omega) (by omega)] at z; exact cq_isWithin d hW hc hO z.1 z.2 hi) (fun v_27 h_27 q_27 => ?_)
        obtain ⟨rfl, rfl⟩ := q_27
        refine rj_if_eq (pc := 30) (tgt := 36) dX9_heldWithin_30 (by decide) (by first | exact b01_r | exact bz_r | omega | (constructor <;> omega) | apply_assumption | (apply atF_r; assumption) | fail "no range") (fun c_30 => ?_) (fun c_30 => ?_)
        · try simp only [b01_0, bz_0, Classical.not_not] at c_30
          refine rj_iinc (pc := 36) dX9_heldWithin_36 (Nat.le_of_ble_eq_true rfl) rfl ?_
          dsimp only [lsSt, List.set, mLs, mEnt]
          refine r_goto (pc := 39) (tgt := 4) dX9_heldWithin_39 (by decide) ?_
          have z := ih (t + 1) (by omega)
          rw [show ((t + 1 : Nat) : Int) = (t : Int) + 1 by omega] at z
          rw [← cnt_f (p := hwB c i) (n := t) (decide_eq_false (fun g => c_30 g.2))] at z
          rw [Int.add_zero] at z
          exact z
        · try simp only [b01_0, bz_0, Classical.not_not] at c_30
          refine rj_iinc (pc := 33) dX9_heldWithin_33 (Nat.le_of_ble_eq_true rfl) rfl ?_
          dsimp only [lsSt, List.set, mLs, mEnt]
          refine rj_iinc (pc := 36) dX9_heldWithin_36 (Nat.le_of_ble_eq_true rfl) rfl ?_
          dsimp only [lsSt, List.set, mLs, mEnt]
          refine r_goto (pc := 39) (tgt := 4) dX9_heldWithin_39 (by decide) ?_
          have z := ih (t + 1) (by omega)
          rw [show ((t + 1 : Nat) : Int) = (t : Int) + 1 by omega] at z
          rw [← cnt_t (p := hwB c i) (n := t) (decide_eq_true (⟨c_17, c_30⟩))] at z
          exact z
set_option maxHeartbeats 4000000 in
set_option maxRecDepth 100000 in
theorem cq_heldWithin {G : mG} {l : Launch} (d : Nat) {h : mH} {w : Nat} {c : Nat → Int} {C : Nat → Nat → Int} {nm : Nat → Int64} {g : Nat → Option Nat} (hW : isW h w c C nm g) (hc : ∀ q, InR (c q)) (hO : oOk c) {N : Nat} (hN : c 0 = (N : Int)) (hcap : N ≤ 90) {i : Int} (hi : InR i) : RUNM G l (d + 3) mX9_heldWithin [.ref w, .int (J i)] h (fun v h' => v = some (.int (J (cnt (hwB c i) N))) ∧ h' = h) := by
  refine RUNM.of (by decide +kernel) (Nat.le_of_ble_eq_true rfl) ?_
  refine rj_iconst (pc := 0) dX9_heldWithin_0 ?_
  refine r_istore_n (pc := 1) dX9_heldWithin_1 (Nat.le_of_ble_eq_true rfl) ?_
  dsimp only [lsSt, List.set, mLs, mEnt]
  refine rj_iconst (pc := 2) dX9_heldWithin_2 ?_
  refine r_istore_n (pc := 3) dX9_heldWithin_3 (Nat.le_of_ble_eq_true rfl) ?_
  dsimp only [lsSt, List.set, mLs, mEnt]
  exact L_heldWithin d hW hc hO hN hcap hi N 0 (by omega)
def ywL (c : Nat → Int) (i : Int) : Nat → Int
  | 0 => -5
  | n + 1 => if hwB c i n = true then (n : Int) else ywL c i n
set_option maxHeartbeats 4000000 in
set_option maxRecDepth 100000 in
theorem L_youngestWithin {G : mG} {l : Launch} (d : Nat) {h : mH} {w : Nat} {c : Nat → Int} {C : Nat → Nat → Int} {nm : Nat → Int64} {g : Nat → Option Nat} (hW : isW h w c C nm g) (hc : ∀ q, InR (c q)) (hO : oOk c) {N : Nat} (hN : c 0 = (N : Int)) (hcap : N ≤ 90) {i : Int} (hi : InR i) : ∀ t : Nat, t ≤ N → RUN G l (d + 3) mX9_youngestWithin 7 [some (.ref w), some (.int (J i)), some (.int (J ((t : Int) - 1)))] [] h (fun v h' => v = some (.int (J (ywL c i t))) ∧ h' = h) := by
  intro t
  induction t with
  | zero =>
    intro ht
    refine r_iload_n (pc := 7) dX9_youngestWithin_7 rfl ?_
    refine rj_if_lt (pc := 8) (tgt := 40) dX9_youngestWithin_8 (by decide) (by first | exact b01_r | exact bz_r | omega | (constructor <;> omega) | apply_assumption | (apply atF_r; assumption) | fail "no range") (fun c_8 => ?_) (fun c_8 => ?_)
    · refine rj_bipush (pc := 40) dX9_youngestWithin_40 (by decide +kernel) ?_
      refine r_ireturn (pc := 42) .int dX9_youngestWithin_42 rfl (by first | rfl | assumption) ?_
      exact ⟨rfl, rfl⟩
    · exfalso; omega
  | succ t ih =>
    intro ht
    have e1 : ((t + 1 : Nat) : Int) - 1 = (t : Int) := by omega
    rw [e1]
    refine r_iload_n (pc := 7) dX9_youngestWithin_7 rfl ?_
    refine rj_if_lt (pc := 8) (tgt := 40) dX9_youngestWithin_8 (by decide) (by first | exact b01_r | exact bz_r | omega | (constructor <;> omega) | apply_assumption | (apply atF_r; assumption) | fail "no range") (fun c_8 => ?_) (fun c_8 => ?_)
    · refine rj_bipush (pc := 40) dX9_youngestWithin_40 (by decide +kernel) ?_
      refine r_ireturn (pc := 42) .int dX9_youngestWithin_42 rfl (by first | rfl | assumption) ?_
      first | (exfalso; omega) | exact ⟨by rw [ywL, if_pos (show hwB c i t = true from decide_eq_true ⟨c_16, c_29⟩)], rfl⟩
    · refine r_aload_n (pc := 11) dX9_youngestWithin_11 rfl (by first | rfl | exact isRefV_rf _) ?_
      refine r_iload_n (pc := 12) dX9_youngestWithin_12 rfl ?_
      refine r_callV1 (pc := 13) dX9_youngestWithin_13 qX9_isHeld kX9_157 vX9_isHeld (by first | assumption | exact isI.gx (by assumption) | exact isI.gc (by assumption) | exact isW.gx (by assumption) | exact isW.gF (by assumption) | exact isW.gT (by assumption) (by omega) | exact isW.gS (by assumption) (by omega) | exact isW.gK (by assumption) (by omega) | exact isW.g1 (by assumption) | exact isW.g2 (by assumption) | exact isW.g3 (by assumption) | exact isI.gx (isW.i0 (by assumption)) | exact isI.gc (isW.i0 (by assumption)) | exact isI.gx (isW.i1 (by assumption)) | exact isI.gc (isW.i1 (by assumption)) | exact isI.gx (isW.i2 (by assumption)) | exact isI.gc (isW.i2 (by assumption)) | exact isI.gx (isW.i3 (by assumption)) | exact isI.gc (isW.i3 (by assumption)) | exact isI.gx (isW.i4 (by assumption)) | exact isI.gc (isW.i4 (by assumption)) | exact isI.gx (isW.i5 (by assumption)) | exact isI.gc (isW.i5 (by assumption)) | exact isR.gx (by assumption) | exact isRd.gx (by assumption) | exact isSp.gx (by assumption) | exact isI.gx (isR.i (by assumption)) | exact isI.gx (isRd.i (by assumption)) | exact isI.gc (isRd.i (by assumption)) | exact isI.gx (isSp.i (by assumption)) | exact isW.gx (isR.w (by assumption)) | exact isW.gF (isR.w (by assumption)) | fail "no such object") rfl rfl (Nat.le_of_ble_eq_true rfl) (cn_isHeld _ hW hc (t := t) (by omega) (by omega)) (fun v_13 h_13 q_13 => ?_)
      obtain ⟨rfl, rfl⟩ := q_13
      refine rj_if_eq (pc := 16) (tgt := 34) dX9_youngestWithin_16 (by decide) (by first | exact b01_r | exact bz_r | omega | (constructor <;> omega) | apply_assumption | (apply atF_r; assumption) | fail "no range") (fun c_16 => ?_) (fun c_16 => ?_)
      · try simp only [b01_0, bz_0, Classical.not_not] at c_16
        refine rj_iinc (pc := 34) dX9_youngestWithin_34 (Nat.le_of_ble_eq_true rfl) rfl ?_
        dsimp only [lsSt, List.set, mLs, mEnt]
        refine r_goto (pc := 37) (tgt := 7) dX9_youngestWithin_37 (by decide) ?_
        have y := ih (by omega)
        rw [show (t : Int) - 1 = (t : Int) + -1 by omega] at y
        rw [ywL, if_neg (by unfold hwB; rw [decide_eq_true_eq]; exact fun g => c_16 g.1)]
        exact y
      · try simp only [b01_0, bz_0, Classical.not_not] at c_16
        refine r_aload_n (pc := 19) dX9_youngestWithin_19 rfl (by first | rfl | exact isRefV_rf _) ?_
        refine r_aload_n (pc := 20) dX9_youngestWithin_20 rfl (by first | rfl | exact isRefV_rf _) ?_
        refine r_iload_n (pc := 21) dX9_youngestWithin_21 rfl ?_
        refine r_callV1 (pc := 22) dX9_youngestWithin_22 qX9_ownerOf kX9_151 vX9_ownerOf (by first | assumption | exact isI.gx (by assumption) | exact isI.gc (by assumption) | exact isW.gx (by assumption) | exact isW.gF (by assumption) | exact isW.gT (by assumption) (by omega) | exact isW.gS (by assumption) (by omega) | exact isW.gK (by assumption) (by omega) | exact isW.g1 (by assumption) | exact isW.g2 (by assumption) | exact isW.g3 (by assumption) | exact isI.gx (isW.i0 (by assumption)) | exact isI.gc (isW.i0 (by assumption)) | exact isI.gx (isW.i1 (by assumption)) | exact isI.gc (isW.i1 (by assumption)) | exact isI.gx (isW.i2 (by assumption)) | exact isI.gc (isW.i2 (by assumption)) | exact isI.gx (isW.i3 (by assumption)) | exact isI.gc (isW.i3 (by assumption)) | exact isI.gx (isW.i4 (by assumption)) | exact isI.gc (isW.i4 (by assumption)) | exact isI.gx (isW.i5 (by assumption)) | exact isI.gc (isW.i5 (by assumption)) | exact isR.gx (by assumption) | exact isRd.gx (by assumption) | exact isSp.gx (by assumption) | exact isI.gx (isR.i (by assumption)) | exact isI.gx (isRd.i (by assumption)) | exact isI.gc (isRd.i (by assumption)) | exact isI.gx (isSp.i (by assumption)) | exact isW.gx (isR.w (by assumption)) | exact isW.gF (isR.w (by assumption)) | fail "no such object") rfl rfl (Nat.le_of_ble_eq_true rfl) (cn_ownerOf _ hW hc (t := t) (by omega) (by omega)) (fun v_22 h_22 q_22 => ?_)
        obtain ⟨rfl, rfl⟩ := q_22
        refine r_iload_n (pc := 25) dX9_youngestWithin_25 rfl ?_
        refine r_callV2 (pc := 26) dX9_youngestWithin_26 qX9_isWithin kX9_164 vX9_isWithin (by first | assumption | exact isI.gx (by assumption) | exact isI.gc (by assumption) | exact isW.gx (by assumption) | exact isW.gF (by assumption) | exact isW.gT (by assumption) (by omega) | exact isW.gS (by assumption) (by omega) | exact isW.gK (by assumption) (by omega) | exact isW.g1 (by assumption) | exact isW.g2 (by assumption) | exact isW.g3 (by assumption) | exact isI.gx (isW.i0 (by assumption)) | exact isI.gc (isW.i0 (by assumption)) | exact isI.gx (isW.i1 (by assumption)) | exact isI.gc (isW.i1 (by assumption)) | exact isI.gx (isW.i2 (by assumption)) | exact isI.gc (isW.i2 (by assumption)) | exact isI.gx (isW.i3 (by assumption)) | exact isI.gc (isW.i3 (by assumption)) | exact isI.gx (isW.i4 (by assumption)) | exact isI.gc (isW.i4 (by assumption)) | exact isI.gx (isW.i5 (by assumption)) | exact isI.gc (isW.i5 (by assumption)) | exact isR.gx (by assumption) | exact isRd.gx (by assumption) | exact isSp.gx (by assumption) | exact isI.gx (isR.i (by assumption)) | exact isI.gx (isRd.i (by assumption)) | exact isI.gc (isRd.i (by assumption)) | exact isI.gx (isSp.i (by assumption)) | exact isW.gx (isR.w (by assumption)) | exact isW.gF (isR.w (by assumption)) | fail "no such object") rfl rfl (Nat.le_of_ble_eq_true rfl) (by have z := hO (t : Int); rw [ownF_t (by omega) (by omega)] at z; exact cq_isWithin d hW hc hO z.1 z.2 hi) (fun v_26 h_26 q_26 => ?_)
        obtain ⟨rfl, rfl⟩ := q_26
        refine rj_if_eq (pc := 29) (tgt := 34) dX9_youngestWithin_29 (by decide) (by first | exact b01_r | exact bz_r | omega | (constructor <;> omega) | apply_assumption | (apply atF_r; assumption) | fail "no range") (fun c_29 => ?_) (fun c_29 => ?_)
        · try simp only [b01_0, bz_0, Classical.not_not] at c_29
          refine rj_iinc (pc := 34) dX9_youngestWithin_34 (Nat.le_of_ble_eq_true rfl) rfl ?_
          dsimp only [lsSt, List.set, mLs, mEnt]
          refine r_goto (pc := 37) (tgt := 7) dX9_youngestWithin_37 (by decide) ?_
          have y := ih (by omega)
          rw [show (t : Int) - 1 = (t : Int) + -1 by omega] at y
          rw [ywL, if_neg (by unfold hwB; rw [decide_eq_true_eq]; exact fun g => c_29 g.2)]
          exact y
        · try simp only [b01_0, bz_0, Classical.not_not] at c_29
          refine r_iload_n (pc := 32) dX9_youngestWithin_32 rfl ?_
          refine r_ireturn (pc := 33) .int dX9_youngestWithin_33 rfl (by first | rfl | assumption) ?_
          first | (exfalso; omega) | exact ⟨by rw [ywL, if_pos (show hwB c i t = true from decide_eq_true ⟨c_16, c_29⟩)], rfl⟩
set_option maxHeartbeats 4000000 in
set_option maxRecDepth 100000 in
theorem cq_youngestWithin {G : mG} {l : Launch} (d : Nat) {h : mH} {w : Nat} {c : Nat → Int} {C : Nat → Nat → Int} {nm : Nat → Int64} {g : Nat → Option Nat} (hW : isW h w c C nm g) (hc : ∀ q, InR (c q)) (hO : oOk c) {N : Nat} (hN : c 0 = (N : Int)) (hcap : N ≤ 90) {i : Int} (hi : InR i) : RUNM G l (d + 3) mX9_youngestWithin [.ref w, .int (J i)] h (fun v h' => v = some (.int (J (ywL c i N))) ∧ h' = h) := by
  refine RUNM.of (by decide +kernel) (Nat.le_of_ble_eq_true rfl) ?_
  have r0 := hc 0
  refine r_aload_n (pc := 0) dX9_youngestWithin_0 rfl (by first | rfl | exact isRefV_rf _) ?_
  refine r_getf (pc := 1) dX9_youngestWithin_1 fX9_71 (by first | assumption | exact isI.gx (by assumption) | exact isI.gc (by assumption) | exact isW.gx (by assumption) | exact isW.gF (by assumption) | exact isW.gT (by assumption) (by omega) | exact isW.gS (by assumption) (by omega) | exact isW.gK (by assumption) (by omega) | exact isW.g1 (by assumption) | exact isW.g2 (by assumption) | exact isW.g3 (by assumption) | exact isI.gx (isW.i0 (by assumption)) | exact isI.gc (isW.i0 (by assumption)) | exact isI.gx (isW.i1 (by assumption)) | exact isI.gc (isW.i1 (by assumption)) | exact isI.gx (isW.i2 (by assumption)) | exact isI.gc (isW.i2 (by assumption)) | exact isI.gx (isW.i3 (by assumption)) | exact isI.gc (isW.i3 (by assumption)) | exact isI.gx (isW.i4 (by assumption)) | exact isI.gc (isW.i4 (by assumption)) | exact isI.gx (isW.i5 (by assumption)) | exact isI.gc (isW.i5 (by assumption)) | exact isR.gx (by assumption) | exact isRd.gx (by assumption) | exact isSp.gx (by assumption) | exact isI.gx (isR.i (by assumption)) | exact isI.gx (isRd.i (by assumption)) | exact isI.gc (isRd.i (by assumption)) | exact isI.gx (isSp.i (by assumption)) | exact isW.gx (isR.w (by assumption)) | exact isW.gF (isR.w (by assumption)) | fail "no such object") (by rfl) ?_
  rw [hN]
  refine rj_iconst (pc := 4) dX9_youngestWithin_4 ?_
  refine rj_isub (pc := 5) dX9_youngestWithin_5 ?_
  refine r_istore_n (pc := 6) dX9_youngestWithin_6 (Nat.le_of_ble_eq_true rfl) ?_
  dsimp only [lsSt, List.set, mLs, mEnt]
  exact L_youngestWithin d hW hc hO hN hcap hi N (Nat.le_refl _)
def hnL (c : Nat → Int) (nm : Nat → Int64) (y : Int64) : Nat → Nat → Int
  | 0, _ => -5
  | n + 1, t => if c (32 + 3 * t) = 0 ∧ nm t = y then (t : Int) else hnL c nm y n (t + 1)
def lcV (x y : Int64) : Int := if x = y then 0 else if x.toInt < y.toInt then -1 else 1
theorem lcV_r {x y : Int64} : InR (lcV x y) := by unfold lcV; split <;> (try split) <;> decide
theorem lcV_0 {x y : Int64} : lcV x y = 0 ↔ x = y := by
  unfold lcV
  by_cases e : x = y
  · rw [if_pos e]; exact ⟨fun _ => e, fun _ => rfl⟩
  · rw [if_neg e]
    constructor
    · intro z; split at z <;> exact absurd z (by decide)
    · intro z; exact absurd z e
theorem lcV_n {x y : Int64} : lcV x y < 0 ↔ x.toInt < y.toInt := by
  unfold lcV
  by_cases e : x = y
  · subst e; rw [if_pos rfl]; omega
  · rw [if_neg e]
    by_cases l : x.toInt < y.toInt
    · rw [if_pos l]; exact ⟨fun _ => l, fun _ => by decide⟩
    · rw [if_neg l]; exact ⟨fun z => absurd z (by decide), fun z => absurd z l⟩
theorem lg_cmp_e (x y : Int64) : lg_cmp x y = J (lcV x y) := by
  unfold lg_cmp lcV
  by_cases e : x = y
  · subst e
    rw [if_neg (by rw [gt_iff_lt, Int64.lt_iff_toInt_lt]; omega), if_pos rfl, if_pos rfl]; exact J_0
  · by_cases l : x.toInt < y.toInt
    · rw [if_neg (by rw [gt_iff_lt, Int64.lt_iff_toInt_lt]; omega), if_neg e, if_neg e, if_pos l, J_def]; decide
    · have : y.toInt < x.toInt := by
        have ne : ¬ x.toInt = y.toInt := fun z => e (Int64.toInt_inj.mp z)
        omega
      rw [if_pos (by rw [gt_iff_lt, Int64.lt_iff_toInt_lt]; exact this), if_neg e, if_neg l]; exact J_1
theorem rj_lcmpE {G : mG} {l : Launch} {d : Nat} {M : mM} {pc : Nat} {ls : List (Option Value)} {st : List Value} {h : mH} {Q : Option Value → mH → Prop} {x y : Int64} (hdg : decode M.2.1 pc = .ok (.lcmp, 1)) (K : RUN G l d M (pc + 1) ls (.int (J (lcV x y)) :: st) h Q) : RUN G l d M pc ls (.long y :: .long x :: st) h Q :=
  r_lcmp hdg (by rw [lg_cmp_e]; exact K)
set_option maxHeartbeats 4000000 in
set_option maxRecDepth 100000 in
theorem L_heldWithName {G : mG} {l : Launch} (d : Nat) {h : mH} {w : Nat} {c : Nat → Int} {C : Nat → Nat → Int} {nm : Nat → Int64} {g : Nat → Option Nat} (hW : isW h w c C nm g) (hc : ∀ q, InR (c q)) {N : Nat} (hN : c 0 = (N : Int)) (hcap : N ≤ 90) {y : Int64} : ∀ n t : Nat, t + n = N → RUN G l (d) mX9_heldWithName 2 [some (.ref w), some (.long y), none, some (.int (J (t : Int)))] [] h (fun v h' => v = some (.int (J (hnL c nm y n t))) ∧ h' = h) := by
  intro n
  induction n with
  | zero =>
    intro t ht
    refine r_iload_n (pc := 2) dX9_heldWithName_2 rfl ?_
    refine r_aload_n (pc := 3) dX9_heldWithName_3 rfl (by first | rfl | exact isRefV_rf _) ?_
    refine r_getf (pc := 4) dX9_heldWithName_4 fX9_71 (by first | assumption | exact isI.gx (by assumption) | exact isI.gc (by assumption) | exact isW.gx (by assumption) | exact isW.gF (by assumption) | exact isW.gT (by assumption) (by omega) | exact isW.gS (by assumption) (by omega) | exact isW.gK (by assumption) (by omega) | exact isW.g1 (by assumption) | exact isW.g2 (by assumption) | exact isW.g3 (by assumption) | exact isI.gx (isW.i0 (by assumption)) | exact isI.gc (isW.i0 (by assumption)) | exact isI.gx (isW.i1 (by assumption)) | exact isI.gc (isW.i1 (by assumption)) | exact isI.gx (isW.i2 (by assumption)) | exact isI.gc (isW.i2 (by assumption)) | exact isI.gx (isW.i3 (by assumption)) | exact isI.gc (isW.i3 (by assumption)) | exact isI.gx (isW.i4 (by assumption)) | exact isI.gc (isW.i4 (by assumption)) | exact isI.gx (isW.i5 (by assumption)) | exact isI.gc (isW.i5 (by assumption)) | exact isR.gx (by assumption) | exact isRd.gx (by assumption) | exact isSp.gx (by assumption) | exact isI.gx (isR.i (by assumption)) | exact isI.gx (isRd.i (by assumption)) | exact isI.gc (isRd.i (by assumption)) | exact isI.gx (isSp.i (by assumption)) | exact isW.gx (isR.w (by assumption)) | exact isW.gF (isR.w (by assumption)) | fail "no such object") (by rfl) ?_
    refine rj_icmp_ge (pc := 7) (tgt := 53) dX9_heldWithName_7 (by decide) (by first | exact b01_r | exact bz_r | omega | (constructor <;> omega) | apply_assumption | (apply atF_r; assumption) | fail "no range") (by first | exact b01_r | exact bz_r | omega | (constructor <;> omega) | apply_assumption | (apply atF_r; assumption) | fail "no range") (fun c_7 => ?_) (fun c_7 => ?_)
    · refine rj_bipush (pc := 53) dX9_heldWithName_53 (by decide +kernel) ?_
      refine r_ireturn (pc := 55) .int dX9_heldWithName_55 rfl (by first | rfl | assumption) ?_
      exact ⟨rfl, rfl⟩
    · exfalso; omega
  | succ n ih =>
    intro t ht
    have rs := hc (32 + 3 * t)
    have et : ((t : Int)).toNat = t := by omega
    refine r_iload_n (pc := 2) dX9_heldWithName_2 rfl ?_
    refine r_aload_n (pc := 3) dX9_heldWithName_3 rfl (by first | rfl | exact isRefV_rf _) ?_
    refine r_getf (pc := 4) dX9_heldWithName_4 fX9_71 (by first | assumption | exact isI.gx (by assumption) | exact isI.gc (by assumption) | exact isW.gx (by assumption) | exact isW.gF (by assumption) | exact isW.gT (by assumption) (by omega) | exact isW.gS (by assumption) (by omega) | exact isW.gK (by assumption) (by omega) | exact isW.g1 (by assumption) | exact isW.g2 (by assumption) | exact isW.g3 (by assumption) | exact isI.gx (isW.i0 (by assumption)) | exact isI.gc (isW.i0 (by assumption)) | exact isI.gx (isW.i1 (by assumption)) | exact isI.gc (isW.i1 (by assumption)) | exact isI.gx (isW.i2 (by assumption)) | exact isI.gc (isW.i2 (by assumption)) | exact isI.gx (isW.i3 (by assumption)) | exact isI.gc (isW.i3 (by assumption)) | exact isI.gx (isW.i4 (by assumption)) | exact isI.gc (isW.i4 (by assumption)) | exact isI.gx (isW.i5 (by assumption)) | exact isI.gc (isW.i5 (by assumption)) | exact isR.gx (by assumption) | exact isRd.gx (by assumption) | exact isSp.gx (by assumption) | exact isI.gx (isR.i (by assumption)) | exact isI.gx (isRd.i (by assumption)) | exact isI.gc (isRd.i (by assumption)) | exact isI.gx (isSp.i (by assumption)) | exact isW.gx (isR.w (by assumption)) | exact isW.gF (isR.w (by assumption)) | fail "no such object") (by rfl) ?_
    refine rj_icmp_ge (pc := 7) (tgt := 53) dX9_heldWithName_7 (by decide) (by first | exact b01_r | exact bz_r | omega | (constructor <;> omega) | apply_assumption | (apply atF_r; assumption) | fail "no range") (by first | exact b01_r | exact bz_r | omega | (constructor <;> omega) | apply_assumption | (apply atF_r; assumption) | fail "no range") (fun c_7 => ?_) (fun c_7 => ?_)
    · refine rj_bipush (pc := 53) dX9_heldWithName_53 (by decide +kernel) ?_
      refine r_ireturn (pc := 55) .int dX9_heldWithName_55 rfl (by first | rfl | assumption) ?_
      first | (exfalso; omega) | exact ⟨by rw [hnL, if_pos ⟨c_28, lcV_0.mp c_42⟩], rfl⟩
    · refine r_iload_n (pc := 10) dX9_heldWithName_10 rfl ?_
      refine r_aload_n (pc := 11) dX9_heldWithName_11 rfl (by first | rfl | exact isRefV_rf _) ?_
      refine r_getf (pc := 12) dX9_heldWithName_12 fX9_11 (by first | assumption | exact isI.gx (by assumption) | exact isI.gc (by assumption) | exact isW.gx (by assumption) | exact isW.gF (by assumption) | exact isW.gT (by assumption) (by omega) | exact isW.gS (by assumption) (by omega) | exact isW.gK (by assumption) (by omega) | exact isW.g1 (by assumption) | exact isW.g2 (by assumption) | exact isW.g3 (by assumption) | exact isI.gx (isW.i0 (by assumption)) | exact isI.gc (isW.i0 (by assumption)) | exact isI.gx (isW.i1 (by assumption)) | exact isI.gc (isW.i1 (by assumption)) | exact isI.gx (isW.i2 (by assumption)) | exact isI.gc (isW.i2 (by assumption)) | exact isI.gx (isW.i3 (by assumption)) | exact isI.gc (isW.i3 (by assumption)) | exact isI.gx (isW.i4 (by assumption)) | exact isI.gc (isW.i4 (by assumption)) | exact isI.gx (isW.i5 (by assumption)) | exact isI.gc (isW.i5 (by assumption)) | exact isR.gx (by assumption) | exact isRd.gx (by assumption) | exact isSp.gx (by assumption) | exact isI.gx (isR.i (by assumption)) | exact isI.gx (isRd.i (by assumption)) | exact isI.gc (isRd.i (by assumption)) | exact isI.gx (isSp.i (by assumption)) | exact isW.gx (isR.w (by assumption)) | exact isW.gF (isR.w (by assumption)) | fail "no such object") (by rfl) ?_
      first | refine rj_alen (pc := 15) dX9_heldWithName_15 (by first | assumption | exact isI.gx (by assumption) | exact isI.gc (by assumption) | exact isW.gx (by assumption) | exact isW.gF (by assumption) | exact isW.gT (by assumption) (by omega) | exact isW.gS (by assumption) (by omega) | exact isW.gK (by assumption) (by omega) | exact isW.g1 (by assumption) | exact isW.g2 (by assumption) | exact isW.g3 (by assumption) | exact isI.gx (isW.i0 (by assumption)) | exact isI.gc (isW.i0 (by assumption)) | exact isI.gx (isW.i1 (by assumption)) | exact isI.gc (isW.i1 (by assumption)) | exact isI.gx (isW.i2 (by assumption)) | exact isI.gc (isW.i2 (by assumption)) | exact isI.gx (isW.i3 (by assumption)) | exact isI.gc (isW.i3 (by assumption)) | exact isI.gx (isW.i4 (by assumption)) | exact isI.gc (isW.i4 (by assumption)) | exact isI.gx (isW.i5 (by assumption)) | exact isI.gc (isW.i5 (by assumption)) | exact isR.gx (by assumption) | exact isRd.gx (by assumption) | exact isSp.gx (by assumption) | exact isI.gx (isR.i (by assumption)) | exact isI.gx (isRd.i (by assumption)) | exact isI.gc (isRd.i (by assumption)) | exact isI.gx (isSp.i (by assumption)) | exact isW.gx (isR.w (by assumption)) | exact isW.gF (isR.w (by assumption)) | fail "no such object") ?_ | refine rj_alenR (pc := 15) dX9_heldWithName_15 (by first | assumption | exact isI.gx (by assumption) | exact isI.gc (by assumption) | exact isW.gx (by assumption) | exact isW.gF (by assumption) | exact isW.gT (by assumption) (by omega) | exact isW.gS (by assumption) (by omega) | exact isW.gK (by assumption) (by omega) | exact isW.g1 (by assumption) | exact isW.g2 (by assumption) | exact isW.g3 (by assumption) | exact isI.gx (isW.i0 (by assumption)) | exact isI.gc (isW.i0 (by assumption)) | exact isI.gx (isW.i1 (by assumption)) | exact isI.gc (isW.i1 (by assumption)) | exact isI.gx (isW.i2 (by assumption)) | exact isI.gc (isW.i2 (by assumption)) | exact isI.gx (isW.i3 (by assumption)) | exact isI.gc (isW.i3 (by assumption)) | exact isI.gx (isW.i4 (by assumption)) | exact isI.gc (isW.i4 (by assumption)) | exact isI.gx (isW.i5 (by assumption)) | exact isI.gc (isW.i5 (by assumption)) | exact isR.gx (by assumption) | exact isRd.gx (by assumption) | exact isSp.gx (by assumption) | exact isI.gx (isR.i (by assumption)) | exact isI.gx (isRd.i (by assumption)) | exact isI.gc (isRd.i (by assumption)) | exact isI.gx (isSp.i (by assumption)) | exact isW.gx (isR.w (by assumption)) | exact isW.gF (isR.w (by assumption)) | fail "no such object") ?_
      refine rj_icmp_ge (pc := 16) (tgt := 53) dX9_heldWithName_16 (by decide) (by first | exact b01_r | exact bz_r | omega | (constructor <;> omega) | apply_assumption | (apply atF_r; assumption) | fail "no range") (by first | exact b01_r | exact bz_r | omega | (constructor <;> omega) | apply_assumption | (apply atF_r; assumption) | fail "no range") (fun c_16 => ?_) (fun c_16 => ?_)
      · refine rj_bipush (pc := 53) dX9_heldWithName_53 (by decide +kernel) ?_
        refine r_ireturn (pc := 55) .int dX9_heldWithName_55 rfl (by first | rfl | assumption) ?_
        first | (exfalso; omega) | exact ⟨by rw [hnL, if_pos ⟨c_28, lcV_0.mp c_42⟩], rfl⟩
      · refine r_aload_n (pc := 19) dX9_heldWithName_19 rfl (by first | rfl | exact isRefV_rf _) ?_
        refine r_getf (pc := 20) dX9_heldWithName_20 fX9_11 (by first | assumption | exact isI.gx (by assumption) | exact isI.gc (by assumption) | exact isW.gx (by assumption) | exact isW.gF (by assumption) | exact isW.gT (by assumption) (by omega) | exact isW.gS (by assumption) (by omega) | exact isW.gK (by assumption) (by omega) | exact isW.g1 (by assumption) | exact isW.g2 (by assumption) | exact isW.g3 (by assumption) | exact isI.gx (isW.i0 (by assumption)) | exact isI.gc (isW.i0 (by assumption)) | exact isI.gx (isW.i1 (by assumption)) | exact isI.gc (isW.i1 (by assumption)) | exact isI.gx (isW.i2 (by assumption)) | exact isI.gc (isW.i2 (by assumption)) | exact isI.gx (isW.i3 (by assumption)) | exact isI.gc (isW.i3 (by assumption)) | exact isI.gx (isW.i4 (by assumption)) | exact isI.gc (isW.i4 (by assumption)) | exact isI.gx (isW.i5 (by assumption)) | exact isI.gc (isW.i5 (by assumption)) | exact isR.gx (by assumption) | exact isRd.gx (by assumption) | exact isSp.gx (by assumption) | exact isI.gx (isR.i (by assumption)) | exact isI.gx (isRd.i (by assumption)) | exact isI.gc (isRd.i (by assumption)) | exact isI.gx (isSp.i (by assumption)) | exact isW.gx (isR.w (by assumption)) | exact isW.gF (isR.w (by assumption)) | fail "no such object") (by rfl) ?_
        refine r_iload_n (pc := 23) dX9_heldWithName_23 rfl ?_
        first | refine rc_aaldT (pc := 24) dX9_heldWithName_24 (by assumption) (by first | exact b01_r | exact bz_r | omega | (constructor <;> omega) | apply_assumption | (apply atF_r; assumption) | fail "no range") (by first | exact b01_r | exact bz_r | omega | (constructor <;> omega) | apply_assumption | (apply atF_r; assumption) | fail "no range") (by first | exact b01_r | exact bz_r | omega | (constructor <;> omega) | apply_assumption | (apply atF_r; assumption) | fail "no range") ?_ | refine rc_aaldS (pc := 24) dX9_heldWithName_24 (by assumption) (by first | exact b01_r | exact bz_r | omega | (constructor <;> omega) | apply_assumption | (apply atF_r; assumption) | fail "no range") (by first | exact b01_r | exact bz_r | omega | (constructor <;> omega) | apply_assumption | (apply atF_r; assumption) | fail "no range") (by first | exact b01_r | exact bz_r | omega | (constructor <;> omega) | apply_assumption | (apply atF_r; assumption) | fail "no range") ?_ | refine rc_aaldK (pc := 24) dX9_heldWithName_24 (by assumption) (by first | exact b01_r | exact bz_r | omega | (constructor <;> omega) | apply_assumption | (apply atF_r; assumption) | fail "no range") (by first | exact b01_r | exact bz_r | omega | (constructor <;> omega) | apply_assumption | (apply atF_r; assumption) | fail "no range") (by first | exact b01_r | exact bz_r | omega | (constructor <;> omega) | apply_assumption | (apply atF_r; assumption) | fail "no range") ?_
        rw [et]
        refine r_getf (pc := 25) dX9_heldWithName_25 fX9_114 (isW.gT (by assumption) (q := t) (by omega)) (by rfl) ?_
        refine rj_if_ne (pc := 28) (tgt := 47) dX9_heldWithName_28 (by decide) (by first | exact b01_r | exact bz_r | omega | (constructor <;> omega) | apply_assumption | (apply atF_r; assumption) | fail "no range") (fun c_28 => ?_) (fun c_28 => ?_)
        · try simp only [b01_0, bz_0, Classical.not_not] at c_28
          refine rj_iinc (pc := 47) dX9_heldWithName_47 (Nat.le_of_ble_eq_true rfl) rfl ?_
          dsimp only [lsSt, List.set, mLs, mEnt]
          refine r_goto (pc := 50) (tgt := 2) dX9_heldWithName_50 (by decide) ?_
          have z := ih (t + 1) (by omega)
          rw [show ((t + 1 : Nat) : Int) = (t : Int) + 1 by omega] at z
          rw [hnL, if_neg (fun g => c_28 g.1)]
          exact z
        · try simp only [b01_0, bz_0, Classical.not_not] at c_28
          refine r_aload_n (pc := 31) dX9_heldWithName_31 rfl (by first | rfl | exact isRefV_rf _) ?_
          refine r_getf (pc := 32) dX9_heldWithName_32 fX9_11 (by first | assumption | exact isI.gx (by assumption) | exact isI.gc (by assumption) | exact isW.gx (by assumption) | exact isW.gF (by assumption) | exact isW.gT (by assumption) (by omega) | exact isW.gS (by assumption) (by omega) | exact isW.gK (by assumption) (by omega) | exact isW.g1 (by assumption) | exact isW.g2 (by assumption) | exact isW.g3 (by assumption) | exact isI.gx (isW.i0 (by assumption)) | exact isI.gc (isW.i0 (by assumption)) | exact isI.gx (isW.i1 (by assumption)) | exact isI.gc (isW.i1 (by assumption)) | exact isI.gx (isW.i2 (by assumption)) | exact isI.gc (isW.i2 (by assumption)) | exact isI.gx (isW.i3 (by assumption)) | exact isI.gc (isW.i3 (by assumption)) | exact isI.gx (isW.i4 (by assumption)) | exact isI.gc (isW.i4 (by assumption)) | exact isI.gx (isW.i5 (by assumption)) | exact isI.gc (isW.i5 (by assumption)) | exact isR.gx (by assumption) | exact isRd.gx (by assumption) | exact isSp.gx (by assumption) | exact isI.gx (isR.i (by assumption)) | exact isI.gx (isRd.i (by assumption)) | exact isI.gc (isRd.i (by assumption)) | exact isI.gx (isSp.i (by assumption)) | exact isW.gx (isR.w (by assumption)) | exact isW.gF (isR.w (by assumption)) | fail "no such object") (by rfl) ?_
          refine r_iload_n (pc := 35) dX9_heldWithName_35 rfl ?_
          first | refine rc_aaldT (pc := 36) dX9_heldWithName_36 (by assumption) (by first | exact b01_r | exact bz_r | omega | (constructor <;> omega) | apply_assumption | (apply atF_r; assumption) | fail "no range") (by first | exact b01_r | exact bz_r | omega | (constructor <;> omega) | apply_assumption | (apply atF_r; assumption) | fail "no range") (by first | exact b01_r | exact bz_r | omega | (constructor <;> omega) | apply_assumption | (apply atF_r; assumption) | fail "no range") ?_ | refine rc_aaldS (pc := 36) dX9_heldWithName_36 (by assumption) (by first | exact b01_r | exact bz_r | omega | (constructor <;> omega) | apply_assumption | (apply atF_r; assumption) | fail "no range") (by first | exact b01_r | exact bz_r | omega | (constructor <;> omega) | apply_assumption | (apply atF_r; assumption) | fail "no range") (by first | exact b01_r | exact bz_r | omega | (constructor <;> omega) | apply_assumption | (apply atF_r; assumption) | fail "no range") ?_ | refine rc_aaldK (pc := 36) dX9_heldWithName_36 (by assumption) (by first | exact b01_r | exact bz_r | omega | (constructor <;> omega) | apply_assumption | (apply atF_r; assumption) | fail "no range") (by first | exact b01_r | exact bz_r | omega | (constructor <;> omega) | apply_assumption | (apply atF_r; assumption) | fail "no range") (by first | exact b01_r | exact bz_r | omega | (constructor <;> omega) | apply_assumption | (apply atF_r; assumption) | fail "no range") ?_
          rw [et]
          refine r_getf (pc := 37) dX9_heldWithName_37 fX9_106 (isW.gT (by assumption) (q := t) (by omega)) (by rfl) ?_
          refine r_lload_n (pc := 40) dX9_heldWithName_40 rfl ?_
          refine rj_lcmpE (pc := 41) dX9_heldWithName_41 ?_
          have rr := lcV_r (x := nm t) (y := y)
          refine rj_if_ne (pc := 42) (tgt := 47) dX9_heldWithName_42 (by decide) (by first | exact b01_r | exact bz_r | omega | (constructor <;> omega) | apply_assumption | (apply atF_r; assumption) | fail "no range") (fun c_42 => ?_) (fun c_42 => ?_)
          · try simp only [b01_0, bz_0, Classical.not_not] at c_42
            refine rj_iinc (pc := 47) dX9_heldWithName_47 (Nat.le_of_ble_eq_true rfl) rfl ?_
            dsimp only [lsSt, List.set, mLs, mEnt]
            refine r_goto (pc := 50) (tgt := 2) dX9_heldWithName_50 (by decide) ?_
            have z := ih (t + 1) (by omega)
            rw [show ((t + 1 : Nat) : Int) = (t : Int) + 1 by omega] at z
            rw [hnL, if_neg (fun g => c_42 (lcV_0.mpr g.2))]
            exact z
          · try simp only [b01_0, bz_0, Classical.not_not] at c_42
            refine r_iload_n (pc := 45) dX9_heldWithName_45 rfl ?_
            refine r_ireturn (pc := 46) .int dX9_heldWithName_46 rfl (by first | rfl | assumption) ?_
            first | (exfalso; omega) | exact ⟨by rw [hnL, if_pos ⟨c_28, lcV_0.mp c_42⟩], rfl⟩
set_option maxHeartbeats 4000000 in
set_option maxRecDepth 100000 in
theorem cq_heldWithName {G : mG} {l : Launch} (d : Nat) {h : mH} {w : Nat} {c : Nat → Int} {C : Nat → Nat → Int} {nm : Nat → Int64} {g : Nat → Option Nat} (hW : isW h w c C nm g) (hc : ∀ q, InR (c q)) {N : Nat} (hN : c 0 = (N : Int)) (hcap : N ≤ 90) {y : Int64} : RUNM G l (d) mX9_heldWithName [.ref w, .long y] h (fun v h' => v = some (.int (J (hnL c nm y N 0))) ∧ h' = h) := by
  refine RUNM.of (by decide +kernel) (Nat.le_of_ble_eq_true rfl) ?_
  refine rj_iconst (pc := 0) dX9_heldWithName_0 ?_
  refine r_istore_n (pc := 1) dX9_heldWithName_1 (Nat.le_of_ble_eq_true rfl) ?_
  dsimp only [lsSt, List.set, mLs, mEnt]
  exact L_heldWithName d hW hc hN hcap N 0 (by omega)
