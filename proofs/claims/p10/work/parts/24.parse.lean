/-! ===== contracts of the reference: reading texts ===== -/
/-- place, fault, figure, steps, open ( -/
abbrev PS : Type := Int × Int × Int × Int × Int
def hereF (sr : Nat → Int) (len a : Int) : Int := if a < len then sr a.toNat else -1
def failF (p : Int) (q : PS) : PS := (q.1, if q.2.1 < 0 then p else q.2.1, q.2.2)
def advF (q : PS) : PS := (q.1 + 1, q.2)
def psOk (len : Int) (q : PS) : Prop := 0 ≤ q.1 ∧ q.1 ≤ len ∧ -1 ≤ q.2.1 ∧ q.2.1 ≤ len ∧ 0 ≤ q.2.2.1 ∧ q.2.2.1 ≤ 99999 ∧ 0 ≤ q.2.2.2.2 ∧ q.2.2.2.2 ≤ q.1 + 90
/-- the text that is read: which row, its bytes, its end -/
def txOk (s : Nat) (sr pool tape : Nat → Int) (len : Int) : Prop := ((s = 4 ∧ sr = tape ∧ len ≤ 120) ∨ (s = 3 ∧ sr = pool ∧ len ≤ 12342)) ∧ 0 ≤ len ∧ ∀ i, 0 ≤ sr i ∧ sr i ≤ 127
theorem here_r {s : Nat} {sr pool tape : Nat → Int} {len : Int} (h : txOk s sr pool tape len) (a : Int) : -1 ≤ hereF sr len a ∧ hereF sr len a ≤ 127 := by
  have := h.2.2 a.toNat
  unfold hereF
  split <;> omega
def isDg (c : Int) : Prop := 48 ≤ c ∧ c ≤ 57
def isLt (c : Int) : Prop := 97 ≤ c ∧ c ≤ 122
set_option maxHeartbeats 4000000 in
set_option maxRecDepth 100000 in
theorem m_here {G : mG} {l : Launch} (d : Nat) {h : mH} {x s : Nat} {f4 f6 f9 f14 f16 f18 : Int} {q : PS} {m kp was pool tape pln pap rwd rw sr : Nat → Int} (hB : isM h x (mFs x f4 f6 q.1 f9 q.2.1 q.2.2.1 q.2.2.2.1 q.2.2.2.2 f14 f16 f18 s) m kp was pool tape pln pap rwd rw) (hT : txOk s sr pool tape f9) (hq : psOk f9 q) : RUNM G l (d) mX11_here [.ref x] h (fun v h' => v = some (.int (J (hereF sr f9 q.1))) ∧ h' = h) := by
  dsimp only [mFs] at hB
  obtain ⟨hq1, hq2, hq3, hq4, hq5, hq6, hq7, hq8⟩ := id hq
  obtain ⟨hs, hl0, hby⟩ := id hT
  rcases hs with ⟨rfl, rfl, h120⟩ | ⟨rfl, rfl, h120⟩
  · refine RUNM.of (by decide +kernel) (Nat.le_of_ble_eq_true rfl) ?_
    refine r_aload_n (pc := 0) dX11_here_0 rfl (by first | rfl | exact isRefV_rf _) ?_
    refine rm_getf (pc := 1) dX11_here_1 fX11_65 (by assumption) rfl ?_
    refine r_aload_n (pc := 4) dX11_here_4 rfl (by first | rfl | exact isRefV_rf _) ?_
    refine rm_getf (pc := 5) dX11_here_5 fX11_68 (by assumption) rfl ?_
    refine rj_icmp_ge (pc := 8) (tgt := 23) dX11_here_8 (by decide) (by first | assumption | exact b01_r | exact bz_r | omega | (constructor <;> omega) | exact hM _ | exact hPo _ | exact hTa _ | exact hRo _) (by first | assumption | exact b01_r | exact bz_r | omega | (constructor <;> omega) | exact hM _ | exact hPo _ | exact hTa _ | exact hRo _) (fun c_8 => ?_) (fun c_8 => ?_)
    · refine rj_iconst (pc := 23) dX11_here_23 ?_
      refine r_ireturn (pc := 24) .int dX11_here_24 rfl (by first | rfl | assumption) ?_
      exact ⟨by unfold hereF; first | rw [if_pos (by omega)] | rw [if_neg (by omega)], rfl⟩
    · refine r_aload_n (pc := 11) dX11_here_11 rfl (by first | rfl | exact isRefV_rf _) ?_
      refine rm_getf (pc := 12) dX11_here_12 fX11_27 (by assumption) rfl ?_
      refine r_aload_n (pc := 15) dX11_here_15 rfl (by first | rfl | exact isRefV_rf _) ?_
      refine rm_getf (pc := 16) dX11_here_16 fX11_65 (by assumption) rfl ?_
      refine rj_iald (pc := 19) dX11_here_19 (by first | exact isM.g0 (by assumption) | exact isM.g3 (by assumption) | exact isM.g4 (by assumption) | exact isM.g8 (by assumption) | exact isM.g7 (by assumption) | exact isM.g6 (by assumption) | exact isM.g5 (by assumption) | exact isM.g1 (by assumption) | exact isM.g2 (by assumption)) (by first | assumption | exact b01_r | exact bz_r | omega | (constructor <;> omega) | exact hM _ | exact hPo _ | exact hTa _ | exact hRo _) (by first | assumption | exact b01_r | exact bz_r | omega | (constructor <;> omega) | exact hM _ | exact hPo _ | exact hTa _ | exact hRo _) (by first | assumption | exact b01_r | exact bz_r | omega | (constructor <;> omega) | exact hM _ | exact hPo _ | exact hTa _ | exact hRo _) rfl ?_
      refine r_goto (pc := 20) (tgt := 24) dX11_here_20 (by decide) ?_
      refine r_ireturn (pc := 24) .int dX11_here_24 rfl (by first | rfl | assumption) ?_
      exact ⟨by unfold hereF; first | rw [if_pos (by omega)] | rw [if_neg (by omega)], rfl⟩
  · refine RUNM.of (by decide +kernel) (Nat.le_of_ble_eq_true rfl) ?_
    refine r_aload_n (pc := 0) dX11_here_0 rfl (by first | rfl | exact isRefV_rf _) ?_
    refine rm_getf (pc := 1) dX11_here_1 fX11_65 (by assumption) rfl ?_
    refine r_aload_n (pc := 4) dX11_here_4 rfl (by first | rfl | exact isRefV_rf _) ?_
    refine rm_getf (pc := 5) dX11_here_5 fX11_68 (by assumption) rfl ?_
    refine rj_icmp_ge (pc := 8) (tgt := 23) dX11_here_8 (by decide) (by first | assumption | exact b01_r | exact bz_r | omega | (constructor <;> omega) | exact hM _ | exact hPo _ | exact hTa _ | exact hRo _) (by first | assumption | exact b01_r | exact bz_r | omega | (constructor <;> omega) | exact hM _ | exact hPo _ | exact hTa _ | exact hRo _) (fun c_8 => ?_) (fun c_8 => ?_)
    · refine rj_iconst (pc := 23) dX11_here_23 ?_
      refine r_ireturn (pc := 24) .int dX11_here_24 rfl (by first | rfl | assumption) ?_
      exact ⟨by unfold hereF; first | rw [if_pos (by omega)] | rw [if_neg (by omega)], rfl⟩
    · refine r_aload_n (pc := 11) dX11_here_11 rfl (by first | rfl | exact isRefV_rf _) ?_
      refine rm_getf (pc := 12) dX11_here_12 fX11_27 (by assumption) rfl ?_
      refine r_aload_n (pc := 15) dX11_here_15 rfl (by first | rfl | exact isRefV_rf _) ?_
      refine rm_getf (pc := 16) dX11_here_16 fX11_65 (by assumption) rfl ?_
      refine rj_iald (pc := 19) dX11_here_19 (by first | exact isM.g0 (by assumption) | exact isM.g3 (by assumption) | exact isM.g4 (by assumption) | exact isM.g8 (by assumption) | exact isM.g7 (by assumption) | exact isM.g6 (by assumption) | exact isM.g5 (by assumption) | exact isM.g1 (by assumption) | exact isM.g2 (by assumption)) (by first | assumption | exact b01_r | exact bz_r | omega | (constructor <;> omega) | exact hM _ | exact hPo _ | exact hTa _ | exact hRo _) (by first | assumption | exact b01_r | exact bz_r | omega | (constructor <;> omega) | exact hM _ | exact hPo _ | exact hTa _ | exact hRo _) (by first | assumption | exact b01_r | exact bz_r | omega | (constructor <;> omega) | exact hM _ | exact hPo _ | exact hTa _ | exact hRo _) rfl ?_
      refine r_goto (pc := 20) (tgt := 24) dX11_here_20 (by decide) ?_
      refine r_ireturn (pc := 24) .int dX11_here_24 rfl (by first | rfl | assumption) ?_
      exact ⟨by unfold hereF; first | rw [if_pos (by omega)] | rw [if_neg (by omega)], rfl⟩
set_option maxHeartbeats 4000000 in
set_option maxRecDepth 100000 in
theorem m_fails {G : mG} {l : Launch} (d : Nat) {h : mH} {x s : Nat} {f4 f6 f9 f14 f16 f18 : Int} {q : PS} {m kp was pool tape pln pap rwd rw sr : Nat → Int} (hB : isM h x (mFs x f4 f6 q.1 f9 q.2.1 q.2.2.1 q.2.2.2.1 q.2.2.2.2 f14 f16 f18 s) m kp was pool tape pln pap rwd rw) (hT : txOk s sr pool tape f9) (hq : psOk f9 q) {p : Int} : RUNM G l (d) mX11_fails [.ref x, .int (J p)] h (fun v h' => v = some (.int (J 0)) ∧ isM h' x (mFs x f4 f6 (failF p q).1 f9 (failF p q).2.1 (failF p q).2.2.1 (failF p q).2.2.2.1 (failF p q).2.2.2.2 f14 f16 f18 s) m kp was pool tape pln pap rwd rw ∧ Same (mBlk x) h h') := by
  dsimp only [mFs] at hB
  refine RUNM.of (by decide +kernel) (Nat.le_of_ble_eq_true rfl) ?_
  obtain ⟨hq1, hq2, hq3, hq4, hq5, hq6, hq7, hq8⟩ := id hq
  obtain ⟨hs, hl0, hby⟩ := id hT
  refine r_aload_n (pc := 0) dX11_fails_0 rfl (by first | rfl | exact isRefV_rf _) ?_
  refine rm_getf (pc := 1) dX11_fails_1 fX11_71 (by assumption) rfl ?_
  refine rj_if_ge (pc := 4) (tgt := 12) dX11_fails_4 (by decide) (by first | assumption | exact b01_r | exact bz_r | omega | (constructor <;> omega) | exact hM _ | exact hPo _ | exact hTa _ | exact hRo _) (fun c_4 => ?_) (fun c_4 => ?_)
  · refine rj_iconst (pc := 12) dX11_fails_12 ?_
    refine r_ireturn (pc := 13) .boolean dX11_fails_13 rfl (by first | exact nar_J0 | exact nar_J1 | exact nar_b01 | exact nar_bz) ?_
    first
    | exact ⟨rfl, by unfold failF; rw [if_neg (by omega)]; exact hB, Same.refl⟩
    | exact ⟨rfl, by unfold failF; rw [if_pos (by omega)]; exact hB_9, hS_9⟩
  · refine r_aload_n (pc := 7) dX11_fails_7 rfl (by first | rfl | exact isRefV_rf _) ?_
    refine r_iload_n (pc := 8) dX11_fails_8 rfl ?_
    refine rm_putf (pc := 9) dX11_fails_9 fX11_71 (by assumption) rfl rfl (Nat.le_of_ble_eq_true rfl) (fun h_9 hB_9 hS_9 => ?_)
    dsimp only [List.set, mFs] at hB_9
    refine rj_iconst (pc := 12) dX11_fails_12 ?_
    refine r_ireturn (pc := 13) .boolean dX11_fails_13 rfl (by first | exact nar_J0 | exact nar_J1 | exact nar_b01 | exact nar_bz) ?_
    first
    | exact ⟨rfl, by unfold failF; rw [if_neg (by omega)]; exact hB, Same.refl⟩
    | exact ⟨rfl, by unfold failF; rw [if_pos (by omega)]; exact hB_9, hS_9⟩
theorem here_lt {sr : Nat → Int} {len a : Int} (h : hereF sr len a ≠ -1) : a < len := by
  unfold hereF at h
  split at h
  · assumption
  · exact absurd rfl h
theorem fail_ok {len p : Int} {q : PS} (hq : psOk len q) (h0 : 0 ≤ p) (h1 : p ≤ len) : psOk len (failF p q) := by
  obtain ⟨a, b, c, d, e, f, g, i⟩ := hq
  unfold failF
  refine ⟨a, b, ?_, ?_, e, f, g, i⟩ <;> (dsimp only; split <;> omega)
theorem adv_ok {len : Int} {q : PS} (hq : psOk len q) (h1 : q.1 < len) : psOk len (advF q) := by
  obtain ⟨a, b, c, d, e, f, g, i⟩ := hq
  exact ⟨by show 0 ≤ q.1 + 1; omega, by show q.1 + 1 ≤ len; omega, c, d, e, f, g, by show q.2.2.2.2 ≤ q.1 + 1 + 90; omega⟩
def signF (sr : Nat → Int) (len c : Int) (q : PS) : PS := if hereF sr len q.1 = c then advF q else failF q.1 q
theorem sign_ok {sr : Nat → Int} {len c : Int} {q : PS} (hq : psOk len q) (hc : c ≠ -1) : psOk len (signF sr len c q) := by
  unfold signF
  split
  · rename_i h
    exact adv_ok hq (here_lt (sr := sr) (by rw [h]; exact hc))
  · exact fail_ok hq hq.1 hq.2.1
set_option maxHeartbeats 4000000 in
set_option maxRecDepth 100000 in
theorem m_isSign {G : mG} {l : Launch} (d : Nat) {h : mH} {x s : Nat} {f4 f6 f9 f14 f16 f18 : Int} {q : PS} {m kp was pool tape pln pap rwd rw sr : Nat → Int} (hB : isM h x (mFs x f4 f6 q.1 f9 q.2.1 q.2.2.1 q.2.2.2.1 q.2.2.2.2 f14 f16 f18 s) m kp was pool tape pln pap rwd rw) (hT : txOk s sr pool tape f9) (hq : psOk f9 q) {c : Int} (hc : InR c) : RUNM G l (d + 1) mX11_isSign [.ref x, .int (J c)] h (fun v h' => v = some (.int (J (b01 (hereF sr f9 q.1 = c)))) ∧ isM h' x (mFs x f4 f6 (signF sr f9 c q).1 f9 (signF sr f9 c q).2.1 (signF sr f9 c q).2.2.1 (signF sr f9 c q).2.2.2.1 (signF sr f9 c q).2.2.2.2 f14 f16 f18 s) m kp was pool tape pln pap rwd rw ∧ Same (mBlk x) h h') := by
  dsimp only [mFs] at hB
  refine RUNM.of (by decide +kernel) (Nat.le_of_ble_eq_true rfl) ?_
  have hB0 := hB
  obtain ⟨hq1, hq2, hq3, hq4, hq5, hq6, hq7, hq8⟩ := id hq
  obtain ⟨hs, hl0, hby⟩ := id hT
  have hh := here_r hT q.1
  refine r_aload_n (pc := 0) dX11_isSign_0 rfl (by first | rfl | exact isRefV_rf _) ?_
  refine r_callV0 (pc := 1) dX11_isSign_1 qX11_here kX11_74 vX11_here (by exact isM.gx (by assumption)) rfl rfl (Nat.le_of_ble_eq_true rfl) (m_here d hB0 hT hq) (fun v_1 h_1 q_1 => ?_)
  obtain ⟨rfl, rfl⟩ := q_1
  refine r_iload_n (pc := 4) dX11_isSign_4 rfl ?_
  refine rj_icmp_eq (pc := 5) (tgt := 17) dX11_isSign_5 (by decide) (by first | assumption | exact b01_r | exact bz_r | omega | (constructor <;> omega) | exact hM _ | exact hPo _ | exact hTa _ | exact hRo _) (by first | assumption | exact b01_r | exact bz_r | omega | (constructor <;> omega) | exact hM _ | exact hPo _ | exact hTa _ | exact hRo _) (fun c_5 => ?_) (fun c_5 => ?_)
  · refine r_aload_n (pc := 17) dX11_isSign_17 rfl (by first | rfl | exact isRefV_rf _) ?_
    refine r_dup (pc := 18) dX11_isSign_18 (by first | rfl | (cases ‹Option Nat› <;> rfl)) ?_
    refine rm_getf (pc := 19) dX11_isSign_19 fX11_65 (by assumption) rfl ?_
    refine rj_iconst (pc := 22) dX11_isSign_22 ?_
    refine rj_iadd (pc := 23) dX11_isSign_23 ?_
    refine rm_putf (pc := 24) dX11_isSign_24 fX11_65 (by assumption) rfl rfl (Nat.le_of_ble_eq_true rfl) (fun h_24 hB_24 hS_24 => ?_)
    dsimp only [List.set, mFs] at hB_24
    refine rj_iconst (pc := 27) dX11_isSign_27 ?_
    refine r_ireturn (pc := 28) .boolean dX11_isSign_28 rfl (by first | exact nar_J0 | exact nar_J1 | exact nar_b01 | exact nar_bz) ?_
    first
    | exact ⟨vf c_5, by unfold signF; rw [if_neg c_5]; exact hB_13, hS_13⟩
    | exact ⟨vt c_5, by unfold signF; rw [if_pos c_5]; exact hB_24, hS_24⟩
  · refine r_aload_n (pc := 8) dX11_isSign_8 rfl (by first | rfl | exact isRefV_rf _) ?_
    refine r_aload_n (pc := 9) dX11_isSign_9 rfl (by first | rfl | exact isRefV_rf _) ?_
    refine rm_getf (pc := 10) dX11_isSign_10 fX11_65 (by assumption) rfl ?_
    refine r_callV1 (pc := 13) dX11_isSign_13 qX11_fails kX11_78 vX11_fails (by exact isM.gx (by assumption)) rfl rfl (Nat.le_of_ble_eq_true rfl) (m_fails d hB0 hT hq) (fun v_13 h_13 q_13 => ?_)
    obtain ⟨rfl, hB_13, hS_13⟩ := q_13
    refine r_ireturn (pc := 16) .boolean dX11_isSign_16 rfl (by first | exact nar_J0 | exact nar_J1 | exact nar_b01 | exact nar_bz) ?_
    first
    | exact ⟨vf c_5, by unfold signF; rw [if_neg c_5]; exact hB_13, hS_13⟩
    | exact ⟨vt c_5, by unfold signF; rw [if_pos c_5]; exact hB_24, hS_24⟩
def bnd : Nat → Int
  | 0 => 99999
  | 1 => 9999
  | 2 => 999
  | 3 => 99
  | 4 => 9
  | _ => 0
theorem bnd_s : ∀ n, n < 5 → 10 * bnd (n + 1) + 9 ≤ bnd n := by decide
theorem bnd_0 : ∀ n, 0 ≤ bnd n ∧ bnd n ≤ 99999 := fun n => by unfold bnd; split <;> decide
def numL (sr : Nat → Int) (len : Int) : Nat → PS → PS
  | 0, q => q
  | n + 1, q => if 48 ≤ hereF sr len q.1 ∧ hereF sr len q.1 ≤ 57 then numL sr len n (q.1 + 1, q.2.1, 10 * q.2.2.1 + hereF sr len q.1 - 48, q.2.2.2) else q
theorem numL_ok {sr : Nat → Int} {len : Int} : ∀ (n : Nat) (q : PS), n ≤ 5 → psOk len q → q.2.2.1 ≤ bnd n → psOk len (numL sr len n q)
  | 0, q, _, hq, _ => hq
  | n + 1, q, hn, hq, hf => by
    unfold numL
    split
    · rename_i h
      have hl := here_lt (sr := sr) (len := len) (a := q.1) (by omega)
      have hb := bnd_s n (by omega)
      have h0 := bnd_0 n
      obtain ⟨a, b, c, d, e, f, g, i⟩ := hq
      refine numL_ok n _ (by omega) ⟨?_, ?_, c, d, ?_, ?_, g, ?_⟩ ?_ <;> dsimp only <;> omega
    · exact hq
def finF (b l m : Int) (q : PS) : PS := if l ≤ q.2.2.1 ∧ q.2.2.1 ≤ m then q else failF b q
def numberF (sr : Nat → Int) (len : Int) (n : Nat) (l m : Int) (q : PS) : PS := if 48 ≤ hereF sr len q.1 ∧ hereF sr len q.1 ≤ 57 then finF q.1 l m (numL sr len n (q.1, q.2.1, 0, q.2.2.2)) else failF q.1 q
abbrev numberB (sr : Nat → Int) (len : Int) (n : Nat) (l m : Int) (q : PS) : Prop := (48 ≤ hereF sr len q.1 ∧ hereF sr len q.1 ≤ 57) ∧ l ≤ (numL sr len n (q.1, q.2.1, 0, q.2.2.2)).2.2.1 ∧ (numL sr len n (q.1, q.2.1, 0, q.2.2.2)).2.2.1 ≤ m
set_option maxHeartbeats 4000000 in
set_option maxRecDepth 100000 in
theorem L_number {G : mG} {l : Launch} (d : Nat) {x s : Nat} {f4 f6 f9 f14 f16 f18 : Int} {m kp was pool tape pln pap rwd rw sr : Nat → Int} (hT : txOk s sr pool tape f9) {F : Nat} (hF : F ≤ 5) {lo hi b : Int} (hlo : InR lo) (hhi : InR hi) (hb0 : 0 ≤ b) (hb1 : b ≤ f9) : ∀ (n k : Nat) (q : PS) (h : mH), isM h x (mFs x f4 f6 q.1 f9 q.2.1 q.2.2.1 q.2.2.2.1 q.2.2.2.2 f14 f16 f18 s) m kp was pool tape pln pap rwd rw → psOk f9 q → k + n = F → q.2.2.1 ≤ bnd n → RUN G l (d + 3) mX11_isNumber 37 [some (.ref x), some (.int (J (F : Int))), some (.int (J lo)), some (.int (J hi)), some (.int (J b)), some (.int (J (k : Int)))] [] h (fun v h' => v = some (.int (J (b01 (lo ≤ (numL sr f9 n q).2.2.1 ∧ (numL sr f9 n q).2.2.1 ≤ hi)))) ∧ isM h' x (mFs x f4 f6 (finF b lo hi (numL sr f9 n q)).1 f9 (finF b lo hi (numL sr f9 n q)).2.1 (finF b lo hi (numL sr f9 n q)).2.2.1 (finF b lo hi (numL sr f9 n q)).2.2.2.1 (finF b lo hi (numL sr f9 n q)).2.2.2.2 f14 f16 f18 s) m kp was pool tape pln pap rwd rw ∧ Same (mBlk x) h h') := by
  obtain ⟨hs, hl0, hby⟩ := id hT
  have h97 : f9 ≤ 12342 := by rcases hs with h | h <;> omega
  intro n
  induction n with
  | zero =>
    intro k q h hB hq hk hf
    have hB0 := hB
    dsimp only [mFs] at hB
    obtain ⟨hq1, hq2, hq3, hq4, hq5, hq6, hq7, hq8⟩ := id hq
    have hh := here_r hT q.1
    refine r_iload (pc := 37) dX11_isNumber_37 rfl ?_
    refine r_iload_n (pc := 39) dX11_isNumber_39 rfl ?_
    refine rj_icmp_ge (pc := 40) (tgt := 92) dX11_isNumber_40 (by decide) (by first | assumption | exact b01_r | exact bz_r | omega | (constructor <;> omega) | exact hM _ | exact hPo _ | exact hTa _ | exact hRo _) (by first | assumption | exact b01_r | exact bz_r | omega | (constructor <;> omega) | exact hM _ | exact hPo _ | exact hTa _ | exact hRo _) (fun c_40 => ?_) (fun c_40 => ?_)
    · rw [show numL sr f9 0 q = q from rfl]
      refine r_aload_n (pc := 92) dX11_isNumber_92 rfl (by first | rfl | exact isRefV_rf _) ?_
      refine rm_getf (pc := 93) dX11_isNumber_93 fX11_81 (by assumption) rfl ?_
      refine r_iload_n (pc := 96) dX11_isNumber_96 rfl ?_
      refine r_iload_n (pc := 97) dX11_isNumber_97 rfl ?_
      refine r_callS3 (pc := 98) dX11_isNumber_98 qX11_isIn kX11_46 sX11_isIn (Nat.le_of_ble_eq_true rfl) (m_isIn (d + 2) ⟨by omega, by omega⟩ hlo hhi) (fun v_98 h_98 q_98 => ?_)
      obtain ⟨rfl, rfl⟩ := q_98
      refine rj_if_ne (pc := 101) (tgt := 113) dX11_isNumber_101 (by decide) (by first | assumption | exact b01_r | exact bz_r | omega | (constructor <;> omega) | exact hM _ | exact hPo _ | exact hTa _ | exact hRo _) (fun c_101 => ?_) (fun c_101 => ?_)
      · try simp only [b01_0, bz_0, Classical.not_not] at c_101
        refine rj_iconst (pc := 113) dX11_isNumber_113 ?_
        refine r_goto (pc := 114) (tgt := 118) dX11_isNumber_114 (by decide) ?_
        refine r_ireturn (pc := 118) .boolean dX11_isNumber_118 rfl (by first | exact nar_J0 | exact nar_J1 | exact nar_b01 | exact nar_bz) ?_
        first
        | exact ⟨vt c_101, by unfold finF; rw [if_pos c_101]; exact hB0, Same.refl⟩
        | exact ⟨vf c_101, by unfold finF; rw [if_neg c_101]; exact hB_107, hS_107⟩
        | exact absurd trivial c_110
      · try simp only [b01_0, bz_0, Classical.not_not] at c_101
        refine r_aload_n (pc := 104) dX11_isNumber_104 rfl (by first | rfl | exact isRefV_rf _) ?_
        refine r_iload (pc := 105) dX11_isNumber_105 rfl ?_
        refine r_callV1 (pc := 107) dX11_isNumber_107 qX11_fails kX11_78 vX11_fails (by exact isM.gx (by assumption)) rfl rfl (Nat.le_of_ble_eq_true rfl) (m_fails (d + 2) hB0 hT hq) (fun v_107 h_107 q_107 => ?_)
        obtain ⟨rfl, hB_107, hS_107⟩ := q_107
        refine rj_if_eq (pc := 110) (tgt := 117) dX11_isNumber_110 (by decide) (by first | assumption | exact b01_r | exact bz_r | omega | (constructor <;> omega) | exact hM _ | exact hPo _ | exact hTa _ | exact hRo _) (fun c_110 => ?_) (fun c_110 => ?_)
        · try simp only [b01_0, bz_0, Classical.not_not] at c_110
          refine rj_iconst (pc := 117) dX11_isNumber_117 ?_
          refine r_ireturn (pc := 118) .boolean dX11_isNumber_118 rfl (by first | exact nar_J0 | exact nar_J1 | exact nar_b01 | exact nar_bz) ?_
          first
          | exact ⟨vt c_101, by unfold finF; rw [if_pos c_101]; exact hB0, Same.refl⟩
          | exact ⟨vf c_101, by unfold finF; rw [if_neg c_101]; exact hB_107, hS_107⟩
          | exact absurd trivial c_110
        · try simp only [b01_0, bz_0, Classical.not_not] at c_110
          refine rj_iconst (pc := 113) dX11_isNumber_113 ?_
          refine r_goto (pc := 114) (tgt := 118) dX11_isNumber_114 (by decide) ?_
          refine r_ireturn (pc := 118) .boolean dX11_isNumber_118 rfl (by first | exact nar_J0 | exact nar_J1 | exact nar_b01 | exact nar_bz) ?_
          first
          | exact ⟨vt c_101, by unfold finF; rw [if_pos c_101]; exact hB0, Same.refl⟩
          | exact ⟨vf c_101, by unfold finF; rw [if_neg c_101]; exact hB_107, hS_107⟩
          | exact absurd trivial c_110
    · exfalso; omega
  | succ n ih =>
    intro k q h hB hq hk hf
    have hB0 := hB
    dsimp only [mFs] at hB
    obtain ⟨hq1, hq2, hq3, hq4, hq5, hq6, hq7, hq8⟩ := id hq
    have hh := here_r hT q.1
    refine r_iload (pc := 37) dX11_isNumber_37 rfl ?_
    refine r_iload_n (pc := 39) dX11_isNumber_39 rfl ?_
    refine rj_icmp_ge (pc := 40) (tgt := 92) dX11_isNumber_40 (by decide) (by first | assumption | exact b01_r | exact bz_r | omega | (constructor <;> omega) | exact hM _ | exact hPo _ | exact hTa _ | exact hRo _) (by first | assumption | exact b01_r | exact bz_r | omega | (constructor <;> omega) | exact hM _ | exact hPo _ | exact hTa _ | exact hRo _) (fun c_40 => ?_) (fun c_40 => ?_)
    · exfalso; omega
    · refine r_aload_n (pc := 43) dX11_isNumber_43 rfl (by first | rfl | exact isRefV_rf _) ?_
      refine r_callV0 (pc := 44) dX11_isNumber_44 qX11_here kX11_74 vX11_here (by exact isM.gx (by assumption)) rfl rfl (Nat.le_of_ble_eq_true rfl) (m_here (d + 2) hB0 hT hq) (fun v_44 h_44 q_44 => ?_)
      obtain ⟨rfl, rfl⟩ := q_44
      refine rj_bipush (pc := 47) dX11_isNumber_47 (by decide +kernel) ?_
      refine rj_bipush (pc := 49) dX11_isNumber_49 (by decide +kernel) ?_
      refine r_callS3 (pc := 51) dX11_isNumber_51 qX11_isIn kX11_46 sX11_isIn (Nat.le_of_ble_eq_true rfl) (m_isIn (d + 2) ⟨by omega, by omega⟩ (by decide) (by decide)) (fun v_51 h_51 q_51 => ?_)
      obtain ⟨rfl, rfl⟩ := q_51
      refine rj_if_eq (pc := 54) (tgt := 92) dX11_isNumber_54 (by decide) (by first | assumption | exact b01_r | exact bz_r | omega | (constructor <;> omega) | exact hM _ | exact hPo _ | exact hTa _ | exact hRo _) (fun c_54 => ?_) (fun c_54 => ?_)
      · try simp only [b01_0, bz_0, Classical.not_not] at c_54
        rw [show numL sr f9 (n + 1) q = q by unfold numL; rw [if_neg c_54]]
        refine r_aload_n (pc := 92) dX11_isNumber_92 rfl (by first | rfl | exact isRefV_rf _) ?_
        refine rm_getf (pc := 93) dX11_isNumber_93 fX11_81 (by assumption) rfl ?_
        refine r_iload_n (pc := 96) dX11_isNumber_96 rfl ?_
        refine r_iload_n (pc := 97) dX11_isNumber_97 rfl ?_
        refine r_callS3 (pc := 98) dX11_isNumber_98 qX11_isIn kX11_46 sX11_isIn (Nat.le_of_ble_eq_true rfl) (m_isIn (d + 2) ⟨by omega, by omega⟩ hlo hhi) (fun v_98 h_98 q_98 => ?_)
        obtain ⟨rfl, rfl⟩ := q_98
        refine rj_if_ne (pc := 101) (tgt := 113) dX11_isNumber_101 (by decide) (by first | assumption | exact b01_r | exact bz_r | omega | (constructor <;> omega) | exact hM _ | exact hPo _ | exact hTa _ | exact hRo _) (fun c_101 => ?_) (fun c_101 => ?_)
        · try simp only [b01_0, bz_0, Classical.not_not] at c_101
          refine rj_iconst (pc := 113) dX11_isNumber_113 ?_
          refine r_goto (pc := 114) (tgt := 118) dX11_isNumber_114 (by decide) ?_
          refine r_ireturn (pc := 118) .boolean dX11_isNumber_118 rfl (by first | exact nar_J0 | exact nar_J1 | exact nar_b01 | exact nar_bz) ?_
          first
          | exact ⟨vt c_101, by unfold finF; rw [if_pos c_101]; exact hB0, Same.refl⟩
          | exact ⟨vf c_101, by unfold finF; rw [if_neg c_101]; exact hB_107, hS_107⟩
          | exact absurd trivial c_110
        · try simp only [b01_0, bz_0, Classical.not_not] at c_101
          refine r_aload_n (pc := 104) dX11_isNumber_104 rfl (by first | rfl | exact isRefV_rf _) ?_
          refine r_iload (pc := 105) dX11_isNumber_105 rfl ?_
          refine r_callV1 (pc := 107) dX11_isNumber_107 qX11_fails kX11_78 vX11_fails (by exact isM.gx (by assumption)) rfl rfl (Nat.le_of_ble_eq_true rfl) (m_fails (d + 2) hB0 hT hq) (fun v_107 h_107 q_107 => ?_)
          obtain ⟨rfl, hB_107, hS_107⟩ := q_107
          refine rj_if_eq (pc := 110) (tgt := 117) dX11_isNumber_110 (by decide) (by first | assumption | exact b01_r | exact bz_r | omega | (constructor <;> omega) | exact hM _ | exact hPo _ | exact hTa _ | exact hRo _) (fun c_110 => ?_) (fun c_110 => ?_)
          · try simp only [b01_0, bz_0, Classical.not_not] at c_110
            refine rj_iconst (pc := 117) dX11_isNumber_117 ?_
            refine r_ireturn (pc := 118) .boolean dX11_isNumber_118 rfl (by first | exact nar_J0 | exact nar_J1 | exact nar_b01 | exact nar_bz) ?_
            first
            | exact ⟨vt c_101, by unfold finF; rw [if_pos c_101]; exact hB0, Same.refl⟩
            | exact ⟨vf c_101, by unfold finF; rw [if_neg c_101]; exact hB_107, hS_107⟩
            | exact absurd trivial c_110
          · try simp only [b01_0, bz_0, Classical.not_not] at c_110
            refine rj_iconst (pc := 113) dX11_isNumber_113 ?_
            refine r_goto (pc := 114) (tgt := 118) dX11_isNumber_114 (by decide) ?_
            refine r_ireturn (pc := 118) .boolean dX11_isNumber_118 rfl (by first | exact nar_J0 | exact nar_J1 | exact nar_b01 | exact nar_bz) ?_
            first
            | exact ⟨vt c_101, by unfold finF; rw [if_pos c_101]; exact hB0, Same.refl⟩
            | exact ⟨vf c_101, by unfold finF; rw [if_neg c_101]; exact hB_107, hS_107⟩
            | exact absurd trivial c_110
      · try simp only [b01_0, bz_0, Classical.not_not] at c_54
        refine r_aload_n (pc := 57) dX11_isNumber_57 rfl (by first | rfl | exact isRefV_rf _) ?_
        refine rj_bipush (pc := 58) dX11_isNumber_58 (by decide +kernel) ?_
        refine r_aload_n (pc := 60) dX11_isNumber_60 rfl (by first | rfl | exact isRefV_rf _) ?_
        refine rm_getf (pc := 61) dX11_isNumber_61 fX11_81 (by assumption) rfl ?_
        refine rj_imul (pc := 64) dX11_isNumber_64 ?_
        refine r_aload_n (pc := 65) dX11_isNumber_65 rfl (by first | rfl | exact isRefV_rf _) ?_
        refine r_callV0 (pc := 66) dX11_isNumber_66 qX11_here kX11_74 vX11_here (by exact isM.gx (by assumption)) rfl rfl (Nat.le_of_ble_eq_true rfl) (m_here (d + 2) hB0 hT hq) (fun v_66 h_66 q_66 => ?_)
        obtain ⟨rfl, rfl⟩ := q_66
        refine rj_iadd (pc := 69) dX11_isNumber_69 ?_
        refine rj_bipush (pc := 70) dX11_isNumber_70 (by decide +kernel) ?_
        refine rj_isub (pc := 72) dX11_isNumber_72 ?_
        refine rm_putf (pc := 73) dX11_isNumber_73 fX11_81 (by assumption) rfl rfl (Nat.le_of_ble_eq_true rfl) (fun h_73 hB_73 hS_73 => ?_)
        dsimp only [List.set, mFs] at hB_73
        refine r_aload_n (pc := 76) dX11_isNumber_76 rfl (by first | rfl | exact isRefV_rf _) ?_
        refine r_dup (pc := 77) dX11_isNumber_77 (by first | rfl | (cases ‹Option Nat› <;> rfl)) ?_
        refine rm_getf (pc := 78) dX11_isNumber_78 fX11_65 (by assumption) rfl ?_
        refine rj_iconst (pc := 81) dX11_isNumber_81 ?_
        refine rj_iadd (pc := 82) dX11_isNumber_82 ?_
        refine rm_putf (pc := 83) dX11_isNumber_83 fX11_65 (by assumption) rfl rfl (Nat.le_of_ble_eq_true rfl) (fun h_83 hB_83 hS_83 => ?_)
        dsimp only [List.set, mFs] at hB_83
        refine rj_iinc (pc := 86) dX11_isNumber_86 (Nat.le_of_ble_eq_true rfl) rfl ?_
        dsimp only [lsSt, List.set, mLs, mEnt]
        refine r_goto (pc := 89) (tgt := 37) dX11_isNumber_89 (by decide) ?_
        have hl := here_lt (sr := sr) (len := f9) (a := q.1) (by omega)
        have hb := bnd_s n (by omega)
        have hb0 := bnd_0 n
        have z := ih (k + 1) (q.1 + 1, q.2.1, 10 * q.2.2.1 + hereF sr f9 q.1 - 48, q.2.2.2) _ hB_83 ⟨by dsimp only; omega, by dsimp only; omega, hq3, hq4, by dsimp only; omega, by dsimp only; omega, hq7, by dsimp only; omega⟩ (by omega) (by dsimp only; omega)
        rw [show numL sr f9 (n + 1) q = numL sr f9 n (q.1 + 1, q.2.1, 10 * q.2.2.1 + hereF sr f9 q.1 - 48, q.2.2.2) by rw [numL, if_pos c_54]]
        exact z.mono (fun v h' g => ⟨g.1, g.2.1, (hS_73.trans hS_83).trans g.2.2⟩)
theorem number_ok {sr : Nat → Int} {len : Int} {n : Nat} {l m : Int} {q : PS} (hn : n ≤ 5) (hq : psOk len q) : psOk len (numberF sr len n l m q) := by
  unfold numberF
  obtain ⟨a, b, c, d, e, f, g, i⟩ := id hq
  split
  · have h1 : psOk len (numL sr len n (q.1, q.2.1, 0, q.2.2.2)) := numL_ok n _ hn ⟨a, b, c, d, Int.le_refl _, (by show (0 : Int) ≤ 99999; decide), g, i⟩ (bnd_0 n).1
    unfold finF
    split
    · exact h1
    · exact fail_ok h1 a b
  · exact fail_ok hq a b
set_option maxHeartbeats 4000000 in
set_option maxRecDepth 100000 in
theorem m_isNumber {G : mG} {l : Launch} (d : Nat) {h : mH} {x s : Nat} {f4 f6 f9 f14 f16 f18 : Int} {q : PS} {m kp was pool tape pln pap rwd rw sr : Nat → Int} (hB : isM h x (mFs x f4 f6 q.1 f9 q.2.1 q.2.2.1 q.2.2.2.1 q.2.2.2.2 f14 f16 f18 s) m kp was pool tape pln pap rwd rw) (hT : txOk s sr pool tape f9) (hq : psOk f9 q) {F : Nat} (hF : F ≤ 5) {lo hi : Int} (hlo : InR lo) (hhi : InR hi) : RUNM G l (d + 3) mX11_isNumber [.ref x, .int (J (F : Int)), .int (J lo), .int (J hi)] h (fun v h' => v = some (.int (J (b01 (numberB sr f9 F lo hi q)))) ∧ isM h' x (mFs x f4 f6 (numberF sr f9 F lo hi q).1 f9 (numberF sr f9 F lo hi q).2.1 (numberF sr f9 F lo hi q).2.2.1 (numberF sr f9 F lo hi q).2.2.2.1 (numberF sr f9 F lo hi q).2.2.2.2 f14 f16 f18 s) m kp was pool tape pln pap rwd rw ∧ Same (mBlk x) h h') := by
  dsimp only [mFs] at hB
  refine RUNM.of (by decide +kernel) (Nat.le_of_ble_eq_true rfl) ?_
  have hB0 := hB
  obtain ⟨hq1, hq2, hq3, hq4, hq5, hq6, hq7, hq8⟩ := id hq
  obtain ⟨hs, hl0, hby⟩ := id hT
  have hh := here_r hT q.1
  refine r_aload_n (pc := 0) dX11_isNumber_0 rfl (by first | rfl | exact isRefV_rf _) ?_
  refine rm_getf (pc := 1) dX11_isNumber_1 fX11_65 (by assumption) rfl ?_
  refine r_istore (pc := 4) dX11_isNumber_4 (Nat.le_of_ble_eq_true rfl) ?_
  dsimp only [lsSt, List.set, mLs, mEnt]
  refine r_aload_n (pc := 6) dX11_isNumber_6 rfl (by first | rfl | exact isRefV_rf _) ?_
  refine r_callV0 (pc := 7) dX11_isNumber_7 qX11_here kX11_74 vX11_here (by exact isM.gx (by assumption)) rfl rfl (Nat.le_of_ble_eq_true rfl) (m_here (d + 2) hB0 hT hq) (fun v_7 h_7 q_7 => ?_)
  obtain ⟨rfl, rfl⟩ := q_7
  refine rj_bipush (pc := 10) dX11_isNumber_10 (by decide +kernel) ?_
  refine rj_bipush (pc := 12) dX11_isNumber_12 (by decide +kernel) ?_
  refine r_callS3 (pc := 14) dX11_isNumber_14 qX11_isIn kX11_46 sX11_isIn (Nat.le_of_ble_eq_true rfl) (m_isIn (d + 2) ⟨by omega, by omega⟩ (by decide) (by decide)) (fun v_14 h_14 q_14 => ?_)
  obtain ⟨rfl, rfl⟩ := q_14
  refine rj_if_ne (pc := 17) (tgt := 29) dX11_isNumber_17 (by decide) (by first | assumption | exact b01_r | exact bz_r | omega | (constructor <;> omega) | exact hM _ | exact hPo _ | exact hTa _ | exact hRo _) (fun c_17 => ?_) (fun c_17 => ?_)
  · try simp only [b01_0, bz_0, Classical.not_not] at c_17
    refine r_aload_n (pc := 29) dX11_isNumber_29 rfl (by first | rfl | exact isRefV_rf _) ?_
    refine rj_iconst (pc := 30) dX11_isNumber_30 ?_
    refine rm_putf (pc := 31) dX11_isNumber_31 fX11_81 (by assumption) rfl rfl (Nat.le_of_ble_eq_true rfl) (fun h_31 hB_31 hS_31 => ?_)
    dsimp only [List.set, mFs] at hB_31
    refine rj_iconst (pc := 34) dX11_isNumber_34 ?_
    refine r_istore (pc := 35) dX11_isNumber_35 (Nat.le_of_ble_eq_true rfl) ?_
    dsimp only [lsSt, List.set, mLs, mEnt]
    have z := L_number (G := G) (l := l) d hT hF hlo hhi hq1 hq2 F 0 (q.1, q.2.1, 0, q.2.2.2) _ hB_31 ⟨hq1, hq2, hq3, hq4, Int.le_refl _, by dsimp only; decide, hq7, hq8⟩ (Nat.zero_add _) (bnd_0 F).1
    refine z.mono (fun v h' g => ⟨?_, ?_, hS_31.trans g.2.2⟩)
    · rw [g.1]; unfold numberB; simp only [c_17, true_and, and_self]
    · unfold numberF; rw [if_pos c_17]; exact g.2.1
  · try simp only [b01_0, bz_0, Classical.not_not] at c_17
    refine r_aload_n (pc := 20) dX11_isNumber_20 rfl (by first | rfl | exact isRefV_rf _) ?_
    refine r_aload_n (pc := 21) dX11_isNumber_21 rfl (by first | rfl | exact isRefV_rf _) ?_
    refine rm_getf (pc := 22) dX11_isNumber_22 fX11_65 (by assumption) rfl ?_
    refine r_callV1 (pc := 25) dX11_isNumber_25 qX11_fails kX11_78 vX11_fails (by exact isM.gx (by assumption)) rfl rfl (Nat.le_of_ble_eq_true rfl) (m_fails (d + 2) hB0 hT hq) (fun v_25 h_25 q_25 => ?_)
    obtain ⟨rfl, hB_25, hS_25⟩ := q_25
    refine r_ireturn (pc := 28) .boolean dX11_isNumber_28 rfl (by first | exact nar_J0 | exact nar_J1 | exact nar_b01 | exact nar_bz) ?_
    exact ⟨vf (fun g => c_17 g.1), by unfold numberF; rw [if_neg c_17]; exact hB_25, hS_25⟩
def minusF (sr : Nat → Int) (len : Int) (q : PS) : PS := (q.1 + b01 (hereF sr len q.1 = 45), q.2)
abbrev signedB (sr : Nat → Int) (len : Int) (q : PS) : Prop := numberB sr len 5 0 99999 (minusF sr len q)
def signedF (sr : Nat → Int) (len : Int) (q : PS) : PS := numberF sr len 5 0 99999 (minusF sr len q)
theorem minus_ok {sr : Nat → Int} {len : Int} {q : PS} (hq : psOk len q) : psOk len (minusF sr len q) := by
  obtain ⟨a, b, c, d, e, f, g, i⟩ := id hq
  by_cases h : hereF sr len q.1 = 45
  · have hl := here_lt (sr := sr) (len := len) (a := q.1) (by omega)
    unfold minusF
    rw [b01_t h]
    exact ⟨by show 0 ≤ q.1 + 1; omega, by show q.1 + 1 ≤ len; omega, c, d, e, f, g, by show q.2.2.2.2 ≤ q.1 + 1 + 90; omega⟩
  · unfold minusF
    rw [b01_f h]
    exact ⟨by show 0 ≤ q.1 + 0; omega, by show q.1 + 0 ≤ len; omega, c, d, e, f, g, by show q.2.2.2.2 ≤ q.1 + 0 + 90; omega⟩
theorem signed_ok {sr : Nat → Int} {len : Int} {q : PS} (hq : psOk len q) : psOk len (signedF sr len q) := number_ok (by decide) (minus_ok hq)
set_option maxHeartbeats 4000000 in
set_option maxRecDepth 100000 in
theorem m_isSigned {G : mG} {l : Launch} (d : Nat) {h : mH} {x s : Nat} {f4 f6 f9 f14 f16 f18 : Int} {q : PS} {m kp was pool tape pln pap rwd rw sr : Nat → Int} (hB : isM h x (mFs x f4 f6 q.1 f9 q.2.1 q.2.2.1 q.2.2.2.1 q.2.2.2.2 f14 f16 f18 s) m kp was pool tape pln pap rwd rw) (hT : txOk s sr pool tape f9) (hq : psOk f9 q) : RUNM G l (d + 4) mX11_isSigned [.ref x] h (fun v h' => v = some (.int (J (b01 (signedB sr f9 q)))) ∧ isM h' x (mFs x f4 f6 (signedF sr f9 q).1 f9 (signedF sr f9 q).2.1 (signedF sr f9 q).2.2.1 (signedF sr f9 q).2.2.2.1 (signedF sr f9 q).2.2.2.2 f14 f16 f18 s) m kp was pool tape pln pap rwd rw ∧ Same (mBlk x) h h') := by
  dsimp only [mFs] at hB
  refine RUNM.of (by decide +kernel) (Nat.le_of_ble_eq_true rfl) ?_
  have hB0 := hB
  obtain ⟨hq1, hq2, hq3, hq4, hq5, hq6, hq7, hq8⟩ := id hq
  obtain ⟨hs, hl0, hby⟩ := id hT
  have hh := here_r hT q.1
  refine r_aload_n (pc := 0) dX11_isSigned_0 rfl (by first | rfl | exact isRefV_rf _) ?_
  refine r_dup (pc := 1) dX11_isSigned_1 (by first | rfl | (cases ‹Option Nat› <;> rfl)) ?_
  refine rm_getf (pc := 2) dX11_isSigned_2 fX11_65 (by assumption) rfl ?_
  refine r_aload_n (pc := 5) dX11_isSigned_5 rfl (by first | rfl | exact isRefV_rf _) ?_
  refine r_callV0 (pc := 6) dX11_isSigned_6 qX11_here kX11_74 vX11_here (by exact isM.gx (by assumption)) rfl rfl (Nat.le_of_ble_eq_true rfl) (m_here (d + 3) hB0 hT hq) (fun v_6 h_6 q_6 => ?_)
  obtain ⟨rfl, rfl⟩ := q_6
  refine rj_bipush (pc := 9) dX11_isSigned_9 (by decide +kernel) ?_
  refine rj_icmp_ne (pc := 11) (tgt := 18) dX11_isSigned_11 (by decide) (by first | assumption | exact b01_r | exact bz_r | omega | (constructor <;> omega) | exact hM _ | exact hPo _ | exact hTa _ | exact hRo _) (by first | assumption | exact b01_r | exact bz_r | omega | (constructor <;> omega) | exact hM _ | exact hPo _ | exact hTa _ | exact hRo _) (fun c_11 => ?_) (fun c_11 => ?_)
  · refine rj_iconst (pc := 18) dX11_isSigned_18 ?_
    refine rj_iadd (pc := 19) dX11_isSigned_19 ?_
    refine rm_putf (pc := 20) dX11_isSigned_20 fX11_65 (by assumption) rfl rfl (Nat.le_of_ble_eq_true rfl) (fun h_20 hB_20 hS_20 => ?_)
    dsimp only [List.set, mFs] at hB_20
    refine r_aload_n (pc := 23) dX11_isSigned_23 rfl (by first | rfl | exact isRefV_rf _) ?_
    refine rj_iconst (pc := 24) dX11_isSigned_24 ?_
    refine rj_iconst (pc := 25) dX11_isSigned_25 ?_
    refine rj_ldc (99999) (pc := 26) dX11_isSigned_26 oX11_84 (by decide +kernel) ?_
    refine r_callV3 (pc := 28) dX11_isSigned_28 qX11_isNumber kX11_85 vX11_isNumber (by exact isM.gx (by assumption)) rfl rfl (Nat.le_of_ble_eq_true rfl) ((m_isNumber (q := minusF sr f9 q) (F := 5) (lo := 0) (hi := 99999) d (by unfold minusF; rw [b01_f c_11]; exact hB_20) hT (minus_ok hq) (by decide) (by decide) (by decide))) (fun v_28 h_28 q_28 => ?_)
    obtain ⟨rfl, hB_28, hS_28⟩ := q_28
    refine r_ireturn (pc := 31) .boolean dX11_isSigned_31 rfl (by first | exact nar_J0 | exact nar_J1 | exact nar_b01 | exact nar_bz) ?_
    exact ⟨rfl, hB_28, hS_20.trans hS_28⟩
  · refine rj_iconst (pc := 14) dX11_isSigned_14 ?_
    refine r_goto (pc := 15) (tgt := 19) dX11_isSigned_15 (by decide) ?_
    refine rj_iadd (pc := 19) dX11_isSigned_19 ?_
    refine rm_putf (pc := 20) dX11_isSigned_20 fX11_65 (by assumption) rfl rfl (Nat.le_of_ble_eq_true rfl) (fun h_20 hB_20 hS_20 => ?_)
    dsimp only [List.set, mFs] at hB_20
    refine r_aload_n (pc := 23) dX11_isSigned_23 rfl (by first | rfl | exact isRefV_rf _) ?_
    refine rj_iconst (pc := 24) dX11_isSigned_24 ?_
    refine rj_iconst (pc := 25) dX11_isSigned_25 ?_
    refine rj_ldc (99999) (pc := 26) dX11_isSigned_26 oX11_84 (by decide +kernel) ?_
    refine r_callV3 (pc := 28) dX11_isSigned_28 qX11_isNumber kX11_85 vX11_isNumber (by exact isM.gx (by assumption)) rfl rfl (Nat.le_of_ble_eq_true rfl) ((m_isNumber (q := minusF sr f9 q) (F := 5) (lo := 0) (hi := 99999) d (by unfold minusF; rw [b01_t c_11]; exact hB_20) hT (minus_ok hq) (by decide) (by decide) (by decide))) (fun v_28 h_28 q_28 => ?_)
    obtain ⟨rfl, hB_28, hS_28⟩ := q_28
    refine r_ireturn (pc := 31) .boolean dX11_isSigned_31 rfl (by first | exact nar_J0 | exact nar_J1 | exact nar_b01 | exact nar_bz) ?_
    exact ⟨rfl, hB_28, hS_20.trans hS_28⟩
def nameL (sr : Nat → Int) (len : Int) : Nat → PS → PS
  | 0, q => q
  | n + 1, q => if 97 ≤ hereF sr len q.1 ∧ hereF sr len q.1 ≤ 122 then nameL sr len n (advF q) else q
abbrev nameB (sr : Nat → Int) (len : Int) (q : PS) : Prop := 97 ≤ hereF sr len q.1 ∧ hereF sr len q.1 ≤ 122
def nameF (sr : Nat → Int) (len : Int) (q : PS) : PS := if nameB sr len q then nameL sr len 7 q else failF q.1 q
theorem nameL_ok {sr : Nat → Int} {len : Int} : ∀ (n : Nat) (q : PS), psOk len q → psOk len (nameL sr len n q)
  | 0, q, hq => hq
  | n + 1, q, hq => by
    unfold nameL
    split
    · exact nameL_ok n _ (adv_ok hq (here_lt (sr := sr) (by omega)))
    · exact hq
theorem name_ok {sr : Nat → Int} {len : Int} {q : PS} (hq : psOk len q) : psOk len (nameF sr len q) := by
  unfold nameF
  split
  · exact nameL_ok 7 _ hq
  · exact fail_ok hq hq.1 hq.2.1
set_option maxHeartbeats 4000000 in
set_option maxRecDepth 100000 in
theorem L_name {G : mG} {l : Launch} (d : Nat) {x s : Nat} {f4 f6 f9 f14 f16 f18 : Int} {m kp was pool tape pln pap rwd rw sr : Nat → Int} (hT : txOk s sr pool tape f9) : ∀ (n k : Nat) (q : PS) (h : mH), isM h x (mFs x f4 f6 q.1 f9 q.2.1 q.2.2.1 q.2.2.2.1 q.2.2.2.2 f14 f16 f18 s) m kp was pool tape pln pap rwd rw → psOk f9 q → k + n = 7 → RUN G l (d + 2) mX11_isName 25 [some (.ref x), some (.int (J (k : Int)))] [] h (fun v h' => v = some (.int (J 1)) ∧ isM h' x (mFs x f4 f6 (nameL sr f9 n q).1 f9 (nameL sr f9 n q).2.1 (nameL sr f9 n q).2.2.1 (nameL sr f9 n q).2.2.2.1 (nameL sr f9 n q).2.2.2.2 f14 f16 f18 s) m kp was pool tape pln pap rwd rw ∧ Same (mBlk x) h h') := by
  obtain ⟨hs, hl0, hby⟩ := id hT
  have h97 : f9 ≤ 12342 := by rcases hs with h | h <;> omega
  intro n
  induction n with
  | zero =>
    intro k q h hB hq hk
    have hB0 := hB
    dsimp only [mFs] at hB
    obtain ⟨hq1, hq2, hq3, hq4, hq5, hq6, hq7, hq8⟩ := id hq
    have hh := here_r hT q.1
    refine r_iload_n (pc := 25) dX11_isName_25 rfl ?_
    refine rj_bipush (pc := 26) dX11_isName_26 (by decide +kernel) ?_
    refine rj_icmp_ge (pc := 28) (tgt := 61) dX11_isName_28 (by decide) (by first | assumption | exact b01_r | exact bz_r | omega | (constructor <;> omega) | exact hM _ | exact hPo _ | exact hTa _ | exact hRo _) (by first | assumption | exact b01_r | exact bz_r | omega | (constructor <;> omega) | exact hM _ | exact hPo _ | exact hTa _ | exact hRo _) (fun c_28 => ?_) (fun c_28 => ?_)
    · refine rj_iconst (pc := 61) dX11_isName_61 ?_
      refine r_ireturn (pc := 62) .boolean dX11_isName_62 rfl (by first | exact nar_J0 | exact nar_J1 | exact nar_b01 | exact nar_bz) ?_
      exact ⟨rfl, hB0, Same.refl⟩
    · exfalso; omega
  | succ n ih =>
    intro k q h hB hq hk
    have hB0 := hB
    dsimp only [mFs] at hB
    obtain ⟨hq1, hq2, hq3, hq4, hq5, hq6, hq7, hq8⟩ := id hq
    have hh := here_r hT q.1
    refine r_iload_n (pc := 25) dX11_isName_25 rfl ?_
    refine rj_bipush (pc := 26) dX11_isName_26 (by decide +kernel) ?_
    refine rj_icmp_ge (pc := 28) (tgt := 61) dX11_isName_28 (by decide) (by first | assumption | exact b01_r | exact bz_r | omega | (constructor <;> omega) | exact hM _ | exact hPo _ | exact hTa _ | exact hRo _) (by first | assumption | exact b01_r | exact bz_r | omega | (constructor <;> omega) | exact hM _ | exact hPo _ | exact hTa _ | exact hRo _) (fun c_28 => ?_) (fun c_28 => ?_)
    · exfalso; omega
    · refine r_aload_n (pc := 31) dX11_isName_31 rfl (by first | rfl | exact isRefV_rf _) ?_
      refine r_callV0 (pc := 32) dX11_isName_32 qX11_here kX11_74 vX11_here (by exact isM.gx (by assumption)) rfl rfl (Nat.le_of_ble_eq_true rfl) (m_here (d + 1) hB0 hT hq) (fun v_32 h_32 q_32 => ?_)
      obtain ⟨rfl, rfl⟩ := q_32
      refine rj_bipush (pc := 35) dX11_isName_35 (by decide +kernel) ?_
      refine rj_bipush (pc := 37) dX11_isName_37 (by decide +kernel) ?_
      refine r_callS3 (pc := 39) dX11_isName_39 qX11_isIn kX11_46 sX11_isIn (Nat.le_of_ble_eq_true rfl) (m_isIn (d + 1) ⟨by omega, by omega⟩ (by decide) (by decide)) (fun v_39 h_39 q_39 => ?_)
      obtain ⟨rfl, rfl⟩ := q_39
      refine rj_if_eq (pc := 42) (tgt := 61) dX11_isName_42 (by decide) (by first | assumption | exact b01_r | exact bz_r | omega | (constructor <;> omega) | exact hM _ | exact hPo _ | exact hTa _ | exact hRo _) (fun c_42 => ?_) (fun c_42 => ?_)
      · try simp only [b01_0, bz_0, Classical.not_not] at c_42
        rw [show nameL sr f9 (n + 1) q = q by unfold nameL; rw [if_neg c_42]]
        refine rj_iconst (pc := 61) dX11_isName_61 ?_
        refine r_ireturn (pc := 62) .boolean dX11_isName_62 rfl (by first | exact nar_J0 | exact nar_J1 | exact nar_b01 | exact nar_bz) ?_
        exact ⟨rfl, hB0, Same.refl⟩
      · try simp only [b01_0, bz_0, Classical.not_not] at c_42
        refine r_aload_n (pc := 45) dX11_isName_45 rfl (by first | rfl | exact isRefV_rf _) ?_
        refine r_dup (pc := 46) dX11_isName_46 (by first | rfl | (cases ‹Option Nat› <;> rfl)) ?_
        refine rm_getf (pc := 47) dX11_isName_47 fX11_65 (by assumption) rfl ?_
        refine rj_iconst (pc := 50) dX11_isName_50 ?_
        refine rj_iadd (pc := 51) dX11_isName_51 ?_
        refine rm_putf (pc := 52) dX11_isName_52 fX11_65 (by assumption) rfl rfl (Nat.le_of_ble_eq_true rfl) (fun h_52 hB_52 hS_52 => ?_)
        dsimp only [List.set, mFs] at hB_52
        refine rj_iinc (pc := 55) dX11_isName_55 (Nat.le_of_ble_eq_true rfl) rfl ?_
        dsimp only [lsSt, List.set, mLs, mEnt]
        refine r_goto (pc := 58) (tgt := 25) dX11_isName_58 (by decide) ?_
        have hl := here_lt (sr := sr) (len := f9) (a := q.1) (by omega)
        have z := ih (k + 1) (advF q) _ hB_52 (adv_ok hq hl) (by omega)
        rw [show nameL sr f9 (n + 1) q = nameL sr f9 n (advF q) by rw [nameL, if_pos c_42]]
        exact z.mono (fun v h' g => ⟨g.1, g.2.1, hS_52.trans g.2.2⟩)
set_option maxHeartbeats 4000000 in
set_option maxRecDepth 100000 in
theorem m_isName {G : mG} {l : Launch} (d : Nat) {h : mH} {x s : Nat} {f4 f6 f9 f14 f16 f18 : Int} {q : PS} {m kp was pool tape pln pap rwd rw sr : Nat → Int} (hB : isM h x (mFs x f4 f6 q.1 f9 q.2.1 q.2.2.1 q.2.2.2.1 q.2.2.2.2 f14 f16 f18 s) m kp was pool tape pln pap rwd rw) (hT : txOk s sr pool tape f9) (hq : psOk f9 q) : RUNM G l (d + 2) mX11_isName [.ref x] h (fun v h' => v = some (.int (J (b01 (nameB sr f9 q)))) ∧ isM h' x (mFs x f4 f6 (nameF sr f9 q).1 f9 (nameF sr f9 q).2.1 (nameF sr f9 q).2.2.1 (nameF sr f9 q).2.2.2.1 (nameF sr f9 q).2.2.2.2 f14 f16 f18 s) m kp was pool tape pln pap rwd rw ∧ Same (mBlk x) h h') := by
  dsimp only [mFs] at hB
  refine RUNM.of (by decide +kernel) (Nat.le_of_ble_eq_true rfl) ?_
  have hB0 := hB
  obtain ⟨hq1, hq2, hq3, hq4, hq5, hq6, hq7, hq8⟩ := id hq
  obtain ⟨hs, hl0, hby⟩ := id hT
  have hh := here_r hT q.1
  refine r_aload_n (pc := 0) dX11_isName_0 rfl (by first | rfl | exact isRefV_rf _) ?_
  refine r_callV0 (pc := 1) dX11_isName_1 qX11_here kX11_74 vX11_here (by exact isM.gx (by assumption)) rfl rfl (Nat.le_of_ble_eq_true rfl) (m_here (d + 1) hB0 hT hq) (fun v_1 h_1 q_1 => ?_)
  obtain ⟨rfl, rfl⟩ := q_1
  refine rj_bipush (pc := 4) dX11_isName_4 (by decide +kernel) ?_
  refine rj_bipush (pc := 6) dX11_isName_6 (by decide +kernel) ?_
  refine r_callS3 (pc := 8) dX11_isName_8 qX11_isIn kX11_46 sX11_isIn (Nat.le_of_ble_eq_true rfl) (m_isIn (d + 1) ⟨by omega, by omega⟩ (by decide) (by decide)) (fun v_8 h_8 q_8 => ?_)
  obtain ⟨rfl, rfl⟩ := q_8
  refine rj_if_ne (pc := 11) (tgt := 23) dX11_isName_11 (by decide) (by first | assumption | exact b01_r | exact bz_r | omega | (constructor <;> omega) | exact hM _ | exact hPo _ | exact hTa _ | exact hRo _) (fun c_11 => ?_) (fun c_11 => ?_)
  · try simp only [b01_0, bz_0, Classical.not_not] at c_11
    refine rj_iconst (pc := 23) dX11_isName_23 ?_
    refine r_istore_n (pc := 24) dX11_isName_24 (Nat.le_of_ble_eq_true rfl) ?_
    dsimp only [lsSt, List.set, mLs, mEnt]
    have z := L_name (G := G) (l := l) d hT 7 0 q _ hB0 hq rfl
    exact z.mono (fun v h' g => ⟨by rw [g.1]; exact vt c_11, by unfold nameF; rw [if_pos c_11]; exact g.2.1, g.2.2⟩)
  · try simp only [b01_0, bz_0, Classical.not_not] at c_11
    refine r_aload_n (pc := 14) dX11_isName_14 rfl (by first | rfl | exact isRefV_rf _) ?_
    refine r_aload_n (pc := 15) dX11_isName_15 rfl (by first | rfl | exact isRefV_rf _) ?_
    refine rm_getf (pc := 16) dX11_isName_16 fX11_65 (by assumption) rfl ?_
    refine r_callV1 (pc := 19) dX11_isName_19 qX11_fails kX11_78 vX11_fails (by exact isM.gx (by assumption)) rfl rfl (Nat.le_of_ble_eq_true rfl) (m_fails (d + 1) hB0 hT hq) (fun v_19 h_19 q_19 => ?_)
    obtain ⟨rfl, hB_19, hS_19⟩ := q_19
    refine r_ireturn (pc := 22) .boolean dX11_isName_22 rfl (by first | exact nar_J0 | exact nar_J1 | exact nar_b01 | exact nar_bz) ?_
    exact ⟨vf c_11, by unfold nameF; rw [if_neg c_11]; exact hB_19, hS_19⟩
