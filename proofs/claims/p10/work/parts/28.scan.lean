/-! ===== contracts of the reference: looking through the pool ===== -/
def neL (pool : Nat → Int) : Nat → Nat → Nat
  | 0, k => k
  | n + 1, k => if 97 ≤ pool k ∧ pool k ≤ 122 then neL pool n (k + 1) else k
set_option maxHeartbeats 4000000 in
set_option maxRecDepth 100000 in
theorem L_nameEnd {G : mG} {l : Launch} (d : Nat) {h : mH} {x s : Nat} {f4 f6 f8 f9 f10 f11 f12 f13 f14 f16 f18 : Int} {m kp was pool tape pln pap rwd rw : Nat → Int}(hB : isM h x (mFs x f4 f6 f8 f9 f10 f11 f12 f13 f14 f16 f18 s) m kp was pool tape pln pap rwd rw) (hPo : ∀ q, InR (pool q)) {p : Nat} (hp : p + 8 ≤ 12342) : ∀ n k : Nat, p ≤ k → (k - p) + n = 7 → RUN G l (d + 1) mX11_nameEnd 2 [some (.ref x), some (.int (J (p : Int))), some (.int (J (k : Int)))] [] h (fun v h' => v = some (.int (J (neL pool n k : Nat))) ∧ h' = h) := by
  dsimp only [mFs] at hB
  intro n
  induction n with
  | zero =>
    intro k hk hn
    refine r_iload_n (pc := 2) dX11_nameEnd_2 rfl ?_
    refine r_iload_n (pc := 3) dX11_nameEnd_3 rfl ?_
    refine rj_isub (pc := 4) dX11_nameEnd_4 ?_
    refine rj_bipush (pc := 5) dX11_nameEnd_5 (by decide +kernel) ?_
    refine rj_icmp_ge (pc := 7) (tgt := 32) dX11_nameEnd_7 (by decide) (by first | assumption | exact b01_r | exact bz_r | omega | (constructor <;> omega) | exact hM _ | exact hPo _ | exact hTa _ | exact hRo _) (by first | assumption | exact b01_r | exact bz_r | omega | (constructor <;> omega) | exact hM _ | exact hPo _ | exact hTa _ | exact hRo _) (fun c_7 => ?_) (fun c_7 => ?_)
    · refine r_iload_n (pc := 32) dX11_nameEnd_32 rfl ?_
      refine r_ireturn (pc := 33) .int dX11_nameEnd_33 rfl (by first | rfl | assumption) ?_
      first
      | exact ⟨rfl, rfl⟩
      | (exfalso; omega)
    · refine r_aload_n (pc := 10) dX11_nameEnd_10 rfl (by first | rfl | exact isRefV_rf _) ?_
      refine rm_getf (pc := 11) dX11_nameEnd_11 fX11_21 (by assumption) rfl ?_
      refine r_iload_n (pc := 14) dX11_nameEnd_14 rfl ?_
      refine rj_iald (pc := 15) (j := k) dX11_nameEnd_15 (by first | exact isM.g0 (by assumption) | exact isM.g3 (by assumption) | exact isM.g4 (by assumption) | exact isM.g8 (by assumption) | exact isM.g7 (by assumption) | exact isM.g6 (by assumption) | exact isM.g5 (by assumption) | exact isM.g1 (by assumption) | exact isM.g2 (by assumption)) (by first | assumption | exact b01_r | exact bz_r | omega | (constructor <;> omega) | exact hM _ | exact hPo _ | exact hTa _ | exact hRo _) (by first | assumption | exact b01_r | exact bz_r | omega | (constructor <;> omega) | exact hM _ | exact hPo _ | exact hTa _ | exact hRo _) (by first | assumption | exact b01_r | exact bz_r | omega | (constructor <;> omega) | exact hM _ | exact hPo _ | exact hTa _ | exact hRo _) (by omega) ?_
      refine rj_bipush (pc := 16) dX11_nameEnd_16 (by decide +kernel) ?_
      refine rj_bipush (pc := 18) dX11_nameEnd_18 (by decide +kernel) ?_
      refine r_callS3 (pc := 20) dX11_nameEnd_20 qX11_isIn kX11_46 sX11_isIn (Nat.le_of_ble_eq_true rfl) (m_isIn d (hPo _) (by decide) (by decide)) (fun v_20 h_20 q_20 => ?_)
      obtain ⟨rfl, rfl⟩ := q_20
      refine rj_if_eq (pc := 23) (tgt := 32) dX11_nameEnd_23 (by decide) (by first | assumption | exact b01_r | exact bz_r | omega | (constructor <;> omega) | exact hM _ | exact hPo _ | exact hTa _ | exact hRo _) (fun c_23 => ?_) (fun c_23 => ?_)
      · try simp only [b01_0, bz_0, Classical.not_not] at c_23
        refine r_iload_n (pc := 32) dX11_nameEnd_32 rfl ?_
        refine r_ireturn (pc := 33) .int dX11_nameEnd_33 rfl (by first | rfl | assumption) ?_
        first
        | exact ⟨rfl, rfl⟩
        | (exfalso; omega)
      · try simp only [b01_0, bz_0, Classical.not_not] at c_23
        refine rj_iinc (pc := 26) dX11_nameEnd_26 (Nat.le_of_ble_eq_true rfl) rfl ?_
        dsimp only [lsSt, List.set, mLs, mEnt]
        refine r_goto (pc := 29) (tgt := 2) dX11_nameEnd_29 (by decide) ?_
        exfalso; omega
  | succ n ih =>
    intro k hk hn
    refine r_iload_n (pc := 2) dX11_nameEnd_2 rfl ?_
    refine r_iload_n (pc := 3) dX11_nameEnd_3 rfl ?_
    refine rj_isub (pc := 4) dX11_nameEnd_4 ?_
    refine rj_bipush (pc := 5) dX11_nameEnd_5 (by decide +kernel) ?_
    refine rj_icmp_ge (pc := 7) (tgt := 32) dX11_nameEnd_7 (by decide) (by first | assumption | exact b01_r | exact bz_r | omega | (constructor <;> omega) | exact hM _ | exact hPo _ | exact hTa _ | exact hRo _) (by first | assumption | exact b01_r | exact bz_r | omega | (constructor <;> omega) | exact hM _ | exact hPo _ | exact hTa _ | exact hRo _) (fun c_7 => ?_) (fun c_7 => ?_)
    · refine r_iload_n (pc := 32) dX11_nameEnd_32 rfl ?_
      refine r_ireturn (pc := 33) .int dX11_nameEnd_33 rfl (by first | rfl | assumption) ?_
      first
      | (exfalso; omega)
      | exact ⟨by rw [neL, if_neg c_23], rfl⟩
    · refine r_aload_n (pc := 10) dX11_nameEnd_10 rfl (by first | rfl | exact isRefV_rf _) ?_
      refine rm_getf (pc := 11) dX11_nameEnd_11 fX11_21 (by assumption) rfl ?_
      refine r_iload_n (pc := 14) dX11_nameEnd_14 rfl ?_
      refine rj_iald (pc := 15) (j := k) dX11_nameEnd_15 (by first | exact isM.g0 (by assumption) | exact isM.g3 (by assumption) | exact isM.g4 (by assumption) | exact isM.g8 (by assumption) | exact isM.g7 (by assumption) | exact isM.g6 (by assumption) | exact isM.g5 (by assumption) | exact isM.g1 (by assumption) | exact isM.g2 (by assumption)) (by first | assumption | exact b01_r | exact bz_r | omega | (constructor <;> omega) | exact hM _ | exact hPo _ | exact hTa _ | exact hRo _) (by first | assumption | exact b01_r | exact bz_r | omega | (constructor <;> omega) | exact hM _ | exact hPo _ | exact hTa _ | exact hRo _) (by first | assumption | exact b01_r | exact bz_r | omega | (constructor <;> omega) | exact hM _ | exact hPo _ | exact hTa _ | exact hRo _) (by omega) ?_
      refine rj_bipush (pc := 16) dX11_nameEnd_16 (by decide +kernel) ?_
      refine rj_bipush (pc := 18) dX11_nameEnd_18 (by decide +kernel) ?_
      refine r_callS3 (pc := 20) dX11_nameEnd_20 qX11_isIn kX11_46 sX11_isIn (Nat.le_of_ble_eq_true rfl) (m_isIn d (hPo _) (by decide) (by decide)) (fun v_20 h_20 q_20 => ?_)
      obtain ⟨rfl, rfl⟩ := q_20
      refine rj_if_eq (pc := 23) (tgt := 32) dX11_nameEnd_23 (by decide) (by first | assumption | exact b01_r | exact bz_r | omega | (constructor <;> omega) | exact hM _ | exact hPo _ | exact hTa _ | exact hRo _) (fun c_23 => ?_) (fun c_23 => ?_)
      · try simp only [b01_0, bz_0, Classical.not_not] at c_23
        refine r_iload_n (pc := 32) dX11_nameEnd_32 rfl ?_
        refine r_ireturn (pc := 33) .int dX11_nameEnd_33 rfl (by first | rfl | assumption) ?_
        first
        | (exfalso; omega)
        | exact ⟨by rw [neL, if_neg c_23], rfl⟩
      · try simp only [b01_0, bz_0, Classical.not_not] at c_23
        refine rj_iinc (pc := 26) dX11_nameEnd_26 (Nat.le_of_ble_eq_true rfl) rfl ?_
        dsimp only [lsSt, List.set, mLs, mEnt]
        refine r_goto (pc := 29) (tgt := 2) dX11_nameEnd_29 (by decide) ?_
        have z := ih (k + 1) (by omega) (by omega)
        rw [show neL pool (n + 1) k = neL pool n (k + 1) by rw [neL, if_pos c_23]]
        exact z
set_option maxHeartbeats 4000000 in
set_option maxRecDepth 100000 in
theorem m_nameEnd {G : mG} {l : Launch} (d : Nat) {h : mH} {x s : Nat} {f4 f6 f8 f9 f10 f11 f12 f13 f14 f16 f18 : Int} {m kp was pool tape pln pap rwd rw : Nat → Int}(hB : isM h x (mFs x f4 f6 f8 f9 f10 f11 f12 f13 f14 f16 f18 s) m kp was pool tape pln pap rwd rw) (hPo : ∀ q, InR (pool q)) {p : Nat} (hp : p + 8 ≤ 12342) : RUNM G l (d + 1) mX11_nameEnd [.ref x, .int (J (p : Int))] h (fun v h' => v = some (.int (J (neL pool 7 p : Nat))) ∧ h' = h) := by
  refine RUNM.of (by decide +kernel) (Nat.le_of_ble_eq_true rfl) ?_
  refine r_iload_n (pc := 0) dX11_nameEnd_0 rfl ?_
  refine r_istore_n (pc := 1) dX11_nameEnd_1 (Nat.le_of_ble_eq_true rfl) ?_
  dsimp only [lsSt, List.set, mLs, mEnt]
  exact L_nameEnd d hB hPo hp 7 p (Nat.le_refl _) (by omega)
def naL (pool : Nat → Int) : Nat → Nat → Int → Int
  | 0, _, v => v
  | n + 1, k, v => if 48 ≤ pool k ∧ pool k ≤ 57 then naL pool n (k + 1) (10 * v + pool k - 48) else v
def stopsBy (pool : Nat → Int) : Nat → Nat → Prop
  | 0, k => ¬ (48 ≤ pool k ∧ pool k ≤ 57)
  | n + 1, k => (48 ≤ pool k ∧ pool k ≤ 57) → stopsBy pool n (k + 1)
def numAt (pool : Nat → Int) (n p : Nat) : Int := if pool p = 45 then -(naL pool (n + 1) (p + 1) 0) else naL pool (n + 1) p 0
set_option maxHeartbeats 4000000 in
set_option maxRecDepth 100000 in
theorem L_numberAt {G : mG} {l : Launch} (d : Nat) {h : mH} {x s : Nat} {f4 f6 f8 f9 f10 f11 f12 f13 f14 f16 f18 : Int} {m kp was pool tape pln pap rwd rw : Nat → Int}(hB : isM h x (mFs x f4 f6 f8 f9 f10 f11 f12 f13 f14 f16 f18 s) m kp was pool tape pln pap rwd rw) (hPo : ∀ q, InR (pool q)) {p : Nat} (hp : p < 12342) : ∀ (n k : Nat) (v : Int), stopsBy pool n k → k + n < 12342 → RUN G l (d + 1) mX11_numberAt 21 [some (.ref x), some (.int (J (p : Int))), some (.int (J (k : Int))), some (.int (J v))] [] h (fun u h' => u = some (.int (J (if pool p = 45 then -(naL pool (n + 1) k v) else naL pool (n + 1) k v))) ∧ h' = h) := by
  dsimp only [mFs] at hB
  intro n
  induction n with
  | zero =>
    intro k v hs hk
    unfold stopsBy at hs
    refine r_aload_n (pc := 21) dX11_numberAt_21 rfl (by first | rfl | exact isRefV_rf _) ?_
    refine rm_getf (pc := 22) dX11_numberAt_22 fX11_21 (by assumption) rfl ?_
    refine r_iload_n (pc := 25) dX11_numberAt_25 rfl ?_
    refine rj_iald (pc := 26) (j := k) dX11_numberAt_26 (by first | exact isM.g0 (by assumption) | exact isM.g3 (by assumption) | exact isM.g4 (by assumption) | exact isM.g8 (by assumption) | exact isM.g7 (by assumption) | exact isM.g6 (by assumption) | exact isM.g5 (by assumption) | exact isM.g1 (by assumption) | exact isM.g2 (by assumption)) (by first | assumption | exact b01_r | exact bz_r | omega | (constructor <;> omega) | exact hM _ | exact hPo _ | exact hTa _ | exact hRo _) (by first | assumption | exact b01_r | exact bz_r | omega | (constructor <;> omega) | exact hM _ | exact hPo _ | exact hTa _ | exact hRo _) (by first | assumption | exact b01_r | exact bz_r | omega | (constructor <;> omega) | exact hM _ | exact hPo _ | exact hTa _ | exact hRo _) (by omega) ?_
    refine rj_bipush (pc := 27) dX11_numberAt_27 (by decide +kernel) ?_
    refine rj_bipush (pc := 29) dX11_numberAt_29 (by decide +kernel) ?_
    refine r_callS3 (pc := 31) dX11_numberAt_31 qX11_isIn kX11_46 sX11_isIn (Nat.le_of_ble_eq_true rfl) (m_isIn d (hPo _) (by decide) (by decide)) (fun v_31 h_31 q_31 => ?_)
    obtain ⟨rfl, rfl⟩ := q_31
    refine rj_if_eq (pc := 34) (tgt := 58) dX11_numberAt_34 (by decide) (by first | assumption | exact b01_r | exact bz_r | omega | (constructor <;> omega) | exact hM _ | exact hPo _ | exact hTa _ | exact hRo _) (fun c_34 => ?_) (fun c_34 => ?_)
    · try simp only [b01_0, bz_0, Classical.not_not] at c_34
      refine r_aload_n (pc := 58) dX11_numberAt_58 rfl (by first | rfl | exact isRefV_rf _) ?_
      refine rm_getf (pc := 59) dX11_numberAt_59 fX11_21 (by assumption) rfl ?_
      refine r_iload_n (pc := 62) dX11_numberAt_62 rfl ?_
      refine rj_iald (pc := 63) (j := p) dX11_numberAt_63 (by first | exact isM.g0 (by assumption) | exact isM.g3 (by assumption) | exact isM.g4 (by assumption) | exact isM.g8 (by assumption) | exact isM.g7 (by assumption) | exact isM.g6 (by assumption) | exact isM.g5 (by assumption) | exact isM.g1 (by assumption) | exact isM.g2 (by assumption)) (by first | assumption | exact b01_r | exact bz_r | omega | (constructor <;> omega) | exact hM _ | exact hPo _ | exact hTa _ | exact hRo _) (by first | assumption | exact b01_r | exact bz_r | omega | (constructor <;> omega) | exact hM _ | exact hPo _ | exact hTa _ | exact hRo _) (by first | assumption | exact b01_r | exact bz_r | omega | (constructor <;> omega) | exact hM _ | exact hPo _ | exact hTa _ | exact hRo _) (by omega) ?_
      refine rj_bipush (pc := 64) dX11_numberAt_64 (by decide +kernel) ?_
      refine rj_icmp_ne (pc := 66) (tgt := 74) dX11_numberAt_66 (by decide) (by first | assumption | exact b01_r | exact bz_r | omega | (constructor <;> omega) | exact hM _ | exact hPo _ | exact hTa _ | exact hRo _) (by first | assumption | exact b01_r | exact bz_r | omega | (constructor <;> omega) | exact hM _ | exact hPo _ | exact hTa _ | exact hRo _) (fun c_66 => ?_) (fun c_66 => ?_)
      · refine r_iload_n (pc := 74) dX11_numberAt_74 rfl ?_
        refine r_ireturn (pc := 75) .int dX11_numberAt_75 rfl (by first | rfl | assumption) ?_
        have e : naL pool (0 + 1) k v = v := by rw [naL, if_neg c_34]
        rw [e]
        first
        | exact ⟨by rw [if_pos c_66], rfl⟩
        | exact ⟨by rw [if_neg c_66], rfl⟩
      · refine r_iload_n (pc := 69) dX11_numberAt_69 rfl ?_
        refine rj_ineg (pc := 70) dX11_numberAt_70 ?_
        refine r_goto (pc := 71) (tgt := 75) dX11_numberAt_71 (by decide) ?_
        refine r_ireturn (pc := 75) .int dX11_numberAt_75 rfl (by first | rfl | assumption) ?_
        have e : naL pool (0 + 1) k v = v := by rw [naL, if_neg c_34]
        rw [e]
        first
        | exact ⟨by rw [if_pos c_66], rfl⟩
        | exact ⟨by rw [if_neg c_66], rfl⟩
    · try simp only [b01_0, bz_0, Classical.not_not] at c_34
      refine rj_bipush (pc := 37) dX11_numberAt_37 (by decide +kernel) ?_
      refine r_iload_n (pc := 39) dX11_numberAt_39 rfl ?_
      refine rj_imul (pc := 40) dX11_numberAt_40 ?_
      refine r_aload_n (pc := 41) dX11_numberAt_41 rfl (by first | rfl | exact isRefV_rf _) ?_
      refine rm_getf (pc := 42) dX11_numberAt_42 fX11_21 (by assumption) rfl ?_
      refine r_iload_n (pc := 45) dX11_numberAt_45 rfl ?_
      refine rj_iald (pc := 46) (j := k) dX11_numberAt_46 (by first | exact isM.g0 (by assumption) | exact isM.g3 (by assumption) | exact isM.g4 (by assumption) | exact isM.g8 (by assumption) | exact isM.g7 (by assumption) | exact isM.g6 (by assumption) | exact isM.g5 (by assumption) | exact isM.g1 (by assumption) | exact isM.g2 (by assumption)) (by first | assumption | exact b01_r | exact bz_r | omega | (constructor <;> omega) | exact hM _ | exact hPo _ | exact hTa _ | exact hRo _) (by first | assumption | exact b01_r | exact bz_r | omega | (constructor <;> omega) | exact hM _ | exact hPo _ | exact hTa _ | exact hRo _) (by first | assumption | exact b01_r | exact bz_r | omega | (constructor <;> omega) | exact hM _ | exact hPo _ | exact hTa _ | exact hRo _) (by omega) ?_
      refine rj_iadd (pc := 47) dX11_numberAt_47 ?_
      refine rj_bipush (pc := 48) dX11_numberAt_48 (by decide +kernel) ?_
      refine rj_isub (pc := 50) dX11_numberAt_50 ?_
      refine r_istore_n (pc := 51) dX11_numberAt_51 (Nat.le_of_ble_eq_true rfl) ?_
      dsimp only [lsSt, List.set, mLs, mEnt]
      refine rj_iinc (pc := 52) dX11_numberAt_52 (Nat.le_of_ble_eq_true rfl) rfl ?_
      dsimp only [lsSt, List.set, mLs, mEnt]
      refine r_goto (pc := 55) (tgt := 21) dX11_numberAt_55 (by decide) ?_
      exact absurd c_34 hs
  | succ n ih =>
    intro k v hs hk
    unfold stopsBy at hs
    refine r_aload_n (pc := 21) dX11_numberAt_21 rfl (by first | rfl | exact isRefV_rf _) ?_
    refine rm_getf (pc := 22) dX11_numberAt_22 fX11_21 (by assumption) rfl ?_
    refine r_iload_n (pc := 25) dX11_numberAt_25 rfl ?_
    refine rj_iald (pc := 26) (j := k) dX11_numberAt_26 (by first | exact isM.g0 (by assumption) | exact isM.g3 (by assumption) | exact isM.g4 (by assumption) | exact isM.g8 (by assumption) | exact isM.g7 (by assumption) | exact isM.g6 (by assumption) | exact isM.g5 (by assumption) | exact isM.g1 (by assumption) | exact isM.g2 (by assumption)) (by first | assumption | exact b01_r | exact bz_r | omega | (constructor <;> omega) | exact hM _ | exact hPo _ | exact hTa _ | exact hRo _) (by first | assumption | exact b01_r | exact bz_r | omega | (constructor <;> omega) | exact hM _ | exact hPo _ | exact hTa _ | exact hRo _) (by first | assumption | exact b01_r | exact bz_r | omega | (constructor <;> omega) | exact hM _ | exact hPo _ | exact hTa _ | exact hRo _) (by omega) ?_
    refine rj_bipush (pc := 27) dX11_numberAt_27 (by decide +kernel) ?_
    refine rj_bipush (pc := 29) dX11_numberAt_29 (by decide +kernel) ?_
    refine r_callS3 (pc := 31) dX11_numberAt_31 qX11_isIn kX11_46 sX11_isIn (Nat.le_of_ble_eq_true rfl) (m_isIn d (hPo _) (by decide) (by decide)) (fun v_31 h_31 q_31 => ?_)
    obtain ⟨rfl, rfl⟩ := q_31
    refine rj_if_eq (pc := 34) (tgt := 58) dX11_numberAt_34 (by decide) (by first | assumption | exact b01_r | exact bz_r | omega | (constructor <;> omega) | exact hM _ | exact hPo _ | exact hTa _ | exact hRo _) (fun c_34 => ?_) (fun c_34 => ?_)
    · try simp only [b01_0, bz_0, Classical.not_not] at c_34
      refine r_aload_n (pc := 58) dX11_numberAt_58 rfl (by first | rfl | exact isRefV_rf _) ?_
      refine rm_getf (pc := 59) dX11_numberAt_59 fX11_21 (by assumption) rfl ?_
      refine r_iload_n (pc := 62) dX11_numberAt_62 rfl ?_
      refine rj_iald (pc := 63) (j := p) dX11_numberAt_63 (by first | exact isM.g0 (by assumption) | exact isM.g3 (by assumption) | exact isM.g4 (by assumption) | exact isM.g8 (by assumption) | exact isM.g7 (by assumption) | exact isM.g6 (by assumption) | exact isM.g5 (by assumption) | exact isM.g1 (by assumption) | exact isM.g2 (by assumption)) (by first | assumption | exact b01_r | exact bz_r | omega | (constructor <;> omega) | exact hM _ | exact hPo _ | exact hTa _ | exact hRo _) (by first | assumption | exact b01_r | exact bz_r | omega | (constructor <;> omega) | exact hM _ | exact hPo _ | exact hTa _ | exact hRo _) (by first | assumption | exact b01_r | exact bz_r | omega | (constructor <;> omega) | exact hM _ | exact hPo _ | exact hTa _ | exact hRo _) (by omega) ?_
      refine rj_bipush (pc := 64) dX11_numberAt_64 (by decide +kernel) ?_
      refine rj_icmp_ne (pc := 66) (tgt := 74) dX11_numberAt_66 (by decide) (by first | assumption | exact b01_r | exact bz_r | omega | (constructor <;> omega) | exact hM _ | exact hPo _ | exact hTa _ | exact hRo _) (by first | assumption | exact b01_r | exact bz_r | omega | (constructor <;> omega) | exact hM _ | exact hPo _ | exact hTa _ | exact hRo _) (fun c_66 => ?_) (fun c_66 => ?_)
      · refine r_iload_n (pc := 74) dX11_numberAt_74 rfl ?_
        refine r_ireturn (pc := 75) .int dX11_numberAt_75 rfl (by first | rfl | assumption) ?_
        have e : naL pool (n + 1 + 1) k v = v := by rw [naL, if_neg c_34]
        rw [e]
        first
        | exact ⟨by rw [if_pos c_66], rfl⟩
        | exact ⟨by rw [if_neg c_66], rfl⟩
      · refine r_iload_n (pc := 69) dX11_numberAt_69 rfl ?_
        refine rj_ineg (pc := 70) dX11_numberAt_70 ?_
        refine r_goto (pc := 71) (tgt := 75) dX11_numberAt_71 (by decide) ?_
        refine r_ireturn (pc := 75) .int dX11_numberAt_75 rfl (by first | rfl | assumption) ?_
        have e : naL pool (n + 1 + 1) k v = v := by rw [naL, if_neg c_34]
        rw [e]
        first
        | exact ⟨by rw [if_pos c_66], rfl⟩
        | exact ⟨by rw [if_neg c_66], rfl⟩
    · try simp only [b01_0, bz_0, Classical.not_not] at c_34
      refine rj_bipush (pc := 37) dX11_numberAt_37 (by decide +kernel) ?_
      refine r_iload_n (pc := 39) dX11_numberAt_39 rfl ?_
      refine rj_imul (pc := 40) dX11_numberAt_40 ?_
      refine r_aload_n (pc := 41) dX11_numberAt_41 rfl (by first | rfl | exact isRefV_rf _) ?_
      refine rm_getf (pc := 42) dX11_numberAt_42 fX11_21 (by assumption) rfl ?_
      refine r_iload_n (pc := 45) dX11_numberAt_45 rfl ?_
      refine rj_iald (pc := 46) (j := k) dX11_numberAt_46 (by first | exact isM.g0 (by assumption) | exact isM.g3 (by assumption) | exact isM.g4 (by assumption) | exact isM.g8 (by assumption) | exact isM.g7 (by assumption) | exact isM.g6 (by assumption) | exact isM.g5 (by assumption) | exact isM.g1 (by assumption) | exact isM.g2 (by assumption)) (by first | assumption | exact b01_r | exact bz_r | omega | (constructor <;> omega) | exact hM _ | exact hPo _ | exact hTa _ | exact hRo _) (by first | assumption | exact b01_r | exact bz_r | omega | (constructor <;> omega) | exact hM _ | exact hPo _ | exact hTa _ | exact hRo _) (by first | assumption | exact b01_r | exact bz_r | omega | (constructor <;> omega) | exact hM _ | exact hPo _ | exact hTa _ | exact hRo _) (by omega) ?_
      refine rj_iadd (pc := 47) dX11_numberAt_47 ?_
      refine rj_bipush (pc := 48) dX11_numberAt_48 (by decide +kernel) ?_
      refine rj_isub (pc := 50) dX11_numberAt_50 ?_
      refine r_istore_n (pc := 51) dX11_numberAt_51 (Nat.le_of_ble_eq_true rfl) ?_
      dsimp only [lsSt, List.set, mLs, mEnt]
      refine rj_iinc (pc := 52) dX11_numberAt_52 (Nat.le_of_ble_eq_true rfl) rfl ?_
      dsimp only [lsSt, List.set, mLs, mEnt]
      refine r_goto (pc := 55) (tgt := 21) dX11_numberAt_55 (by decide) ?_
      have z := ih (k + 1) (10 * v + pool k - 48) (hs c_34) (by omega)
      rw [show naL pool (n + 1 + 1) k v = naL pool (n + 1) (k + 1) (10 * v + pool k - 48) by rw [naL, if_pos c_34]]
      exact z
set_option maxHeartbeats 4000000 in
set_option maxRecDepth 100000 in
theorem m_numberAt {G : mG} {l : Launch} (d : Nat) {h : mH} {x s : Nat} {f4 f6 f8 f9 f10 f11 f12 f13 f14 f16 f18 : Int} {m kp was pool tape pln pap rwd rw : Nat → Int}(hB : isM h x (mFs x f4 f6 f8 f9 f10 f11 f12 f13 f14 f16 f18 s) m kp was pool tape pln pap rwd rw) (hPo : ∀ q, InR (pool q)) {p n : Nat} (hp : p + 1 + n < 12342) (hs : stopsBy pool n (if pool p = 45 then p + 1 else p)) : RUNM G l (d + 1) mX11_numberAt [.ref x, .int (J (p : Int))] h (fun v h' => v = some (.int (J (numAt pool n p))) ∧ h' = h) := by
  dsimp only [mFs] at hB
  refine RUNM.of (by decide +kernel) (Nat.le_of_ble_eq_true rfl) ?_
  refine r_aload_n (pc := 0) dX11_numberAt_0 rfl (by first | rfl | exact isRefV_rf _) ?_
  refine rm_getf (pc := 1) dX11_numberAt_1 fX11_21 (by assumption) rfl ?_
  refine r_iload_n (pc := 4) dX11_numberAt_4 rfl ?_
  refine rj_iald (pc := 5) (j := p) dX11_numberAt_5 (by first | exact isM.g0 (by assumption) | exact isM.g3 (by assumption) | exact isM.g4 (by assumption) | exact isM.g8 (by assumption) | exact isM.g7 (by assumption) | exact isM.g6 (by assumption) | exact isM.g5 (by assumption) | exact isM.g1 (by assumption) | exact isM.g2 (by assumption)) (by first | assumption | exact b01_r | exact bz_r | omega | (constructor <;> omega) | exact hM _ | exact hPo _ | exact hTa _ | exact hRo _) (by first | assumption | exact b01_r | exact bz_r | omega | (constructor <;> omega) | exact hM _ | exact hPo _ | exact hTa _ | exact hRo _) (by first | assumption | exact b01_r | exact bz_r | omega | (constructor <;> omega) | exact hM _ | exact hPo _ | exact hTa _ | exact hRo _) (by omega) ?_
  refine rj_bipush (pc := 6) dX11_numberAt_6 (by decide +kernel) ?_
  refine rj_icmp_ne (pc := 8) (tgt := 17) dX11_numberAt_8 (by decide) (by first | assumption | exact b01_r | exact bz_r | omega | (constructor <;> omega) | exact hM _ | exact hPo _ | exact hTa _ | exact hRo _) (by first | assumption | exact b01_r | exact bz_r | omega | (constructor <;> omega) | exact hM _ | exact hPo _ | exact hTa _ | exact hRo _) (fun c_8 => ?_) (fun c_8 => ?_)
  · refine r_iload_n (pc := 17) dX11_numberAt_17 rfl ?_
    refine r_istore_n (pc := 18) dX11_numberAt_18 (Nat.le_of_ble_eq_true rfl) ?_
    dsimp only [lsSt, List.set, mLs, mEnt]
    refine rj_iconst (pc := 19) dX11_numberAt_19 ?_
    refine r_istore_n (pc := 20) dX11_numberAt_20 (Nat.le_of_ble_eq_true rfl) ?_
    dsimp only [lsSt, List.set, mLs, mEnt]
    rw [if_neg c_8] at hs
    have z := L_numberAt (G := G) (l := l) d hB hPo (p := p) (by omega) n p 0 hs (by omega)
    rw [if_neg c_8] at z
    unfold numAt
    rw [if_neg c_8]
    exact z
  · refine r_iload_n (pc := 11) dX11_numberAt_11 rfl ?_
    refine rj_iconst (pc := 12) dX11_numberAt_12 ?_
    refine rj_iadd (pc := 13) dX11_numberAt_13 ?_
    refine r_goto (pc := 14) (tgt := 18) dX11_numberAt_14 (by decide) ?_
    refine r_istore_n (pc := 18) dX11_numberAt_18 (Nat.le_of_ble_eq_true rfl) ?_
    dsimp only [lsSt, List.set, mLs, mEnt]
    refine rj_iconst (pc := 19) dX11_numberAt_19 ?_
    refine r_istore_n (pc := 20) dX11_numberAt_20 (Nat.le_of_ble_eq_true rfl) ?_
    dsimp only [lsSt, List.set, mLs, mEnt]
    rw [if_pos c_8] at hs
    have z := L_numberAt (G := G) (l := l) d hB hPo (p := p) (by omega) n (p + 1) 0 hs (by omega)
    rw [if_pos c_8] at z
    unfold numAt
    rw [if_pos c_8]
    exact z
def brk (c : Int) : Int := if c = 123 then 1 else if c = 125 then -1 else 0
def behL (pool : Nat → Int) : Nat → Nat → Int → Nat
  | 0, p, _ => p
  | n + 1, p, w => if 0 < w ∨ ¬ pool p = 59 then behL pool n (p + 1) (w + brk (pool p)) else p
set_option maxHeartbeats 4000000 in
set_option maxRecDepth 100000 in
theorem L_behind {G : mG} {l : Launch} (d : Nat) {h : mH} {x s : Nat} {f4 f6 f8 f9 f10 f11 f12 f13 f14 f16 f18 : Int} {m kp was pool tape pln pap rwd rw : Nat → Int}(hB : isM h x (mFs x f4 f6 f8 f9 f10 f11 f12 f13 f14 f16 f18 s) m kp was pool tape pln pap rwd rw) (hPo : ∀ q, InR (pool q)) {a : Int} {E : Nat} (hE : E ≤ 12342) : ∀ (n p : Nat) (u : Int), p + n = E → -20000 ≤ u - n → u + n ≤ 20000 → RUN G l d mX11_behind 5 [some (.ref x), some (.int (J a)), some (.int (J (E : Int))), some (.int (J (p : Int))), some (.int (J u))] [] h (fun v h' => v = some (.int (J (behL pool n p u : Nat))) ∧ h' = h) := by
  dsimp only [mFs] at hB
  intro n
  induction n with
  | zero =>
    intro p u hp h1 h2
    refine r_iload_n (pc := 5) dX11_behind_5 rfl ?_
    refine r_iload_n (pc := 6) dX11_behind_6 rfl ?_
    refine rj_icmp_ge (pc := 7) (tgt := 68) dX11_behind_7 (by decide) (by first | assumption | exact b01_r | exact bz_r | omega | (constructor <;> omega) | exact hM _ | exact hPo _ | exact hTa _ | exact hRo _) (by first | assumption | exact b01_r | exact bz_r | omega | (constructor <;> omega) | exact hM _ | exact hPo _ | exact hTa _ | exact hRo _) (fun c_7 => ?_) (fun c_7 => ?_)
    · refine r_iload_n (pc := 68) dX11_behind_68 rfl ?_
      refine r_ireturn (pc := 69) .int dX11_behind_69 rfl (by first | rfl | assumption) ?_
      first
      | exact ⟨rfl, rfl⟩
      | (exfalso; omega)
    · refine r_iload (pc := 10) dX11_behind_10 rfl ?_
      refine rj_if_gt (pc := 12) (tgt := 26) dX11_behind_12 (by decide) (by first | assumption | exact b01_r | exact bz_r | omega | (constructor <;> omega) | exact hM _ | exact hPo _ | exact hTa _ | exact hRo _) (fun c_12 => ?_) (fun c_12 => ?_)
      · exfalso; omega
      · refine r_aload_n (pc := 15) dX11_behind_15 rfl (by first | rfl | exact isRefV_rf _) ?_
        refine rm_getf (pc := 16) dX11_behind_16 fX11_21 (by assumption) rfl ?_
        refine r_iload_n (pc := 19) dX11_behind_19 rfl ?_
        refine rj_iald (pc := 20) (j := p) dX11_behind_20 (by first | exact isM.g0 (by assumption) | exact isM.g3 (by assumption) | exact isM.g4 (by assumption) | exact isM.g8 (by assumption) | exact isM.g7 (by assumption) | exact isM.g6 (by assumption) | exact isM.g5 (by assumption) | exact isM.g1 (by assumption) | exact isM.g2 (by assumption)) (by first | assumption | exact b01_r | exact bz_r | omega | (constructor <;> omega) | exact hM _ | exact hPo _ | exact hTa _ | exact hRo _) (by first | assumption | exact b01_r | exact bz_r | omega | (constructor <;> omega) | exact hM _ | exact hPo _ | exact hTa _ | exact hRo _) (by first | assumption | exact b01_r | exact bz_r | omega | (constructor <;> omega) | exact hM _ | exact hPo _ | exact hTa _ | exact hRo _) (by omega) ?_
        refine rj_bipush (pc := 21) dX11_behind_21 (by decide +kernel) ?_
        refine rj_icmp_eq (pc := 23) (tgt := 68) dX11_behind_23 (by decide) (by first | assumption | exact b01_r | exact bz_r | omega | (constructor <;> omega) | exact hM _ | exact hPo _ | exact hTa _ | exact hRo _) (by first | assumption | exact b01_r | exact bz_r | omega | (constructor <;> omega) | exact hM _ | exact hPo _ | exact hTa _ | exact hRo _) (fun c_23 => ?_) (fun c_23 => ?_)
        · refine r_iload_n (pc := 68) dX11_behind_68 rfl ?_
          refine r_ireturn (pc := 69) .int dX11_behind_69 rfl (by first | rfl | assumption) ?_
          first
          | exact ⟨rfl, rfl⟩
          | (exfalso; omega)
        · exfalso; omega
  | succ n ih =>
    intro p u hp h1 h2
    refine r_iload_n (pc := 5) dX11_behind_5 rfl ?_
    refine r_iload_n (pc := 6) dX11_behind_6 rfl ?_
    refine rj_icmp_ge (pc := 7) (tgt := 68) dX11_behind_7 (by decide) (by first | assumption | exact b01_r | exact bz_r | omega | (constructor <;> omega) | exact hM _ | exact hPo _ | exact hTa _ | exact hRo _) (by first | assumption | exact b01_r | exact bz_r | omega | (constructor <;> omega) | exact hM _ | exact hPo _ | exact hTa _ | exact hRo _) (fun c_7 => ?_) (fun c_7 => ?_)
    · refine r_iload_n (pc := 68) dX11_behind_68 rfl ?_
      refine r_ireturn (pc := 69) .int dX11_behind_69 rfl (by first | rfl | assumption) ?_
      first
      | (exfalso; omega)
      | exact ⟨by rw [behL, if_neg (by omega)], rfl⟩
    · refine r_iload (pc := 10) dX11_behind_10 rfl ?_
      refine rj_if_gt (pc := 12) (tgt := 26) dX11_behind_12 (by decide) (by first | assumption | exact b01_r | exact bz_r | omega | (constructor <;> omega) | exact hM _ | exact hPo _ | exact hTa _ | exact hRo _) (fun c_12 => ?_) (fun c_12 => ?_)
      · refine r_iload (pc := 26) dX11_behind_26 rfl ?_
        refine r_aload_n (pc := 28) dX11_behind_28 rfl (by first | rfl | exact isRefV_rf _) ?_
        refine rm_getf (pc := 29) dX11_behind_29 fX11_21 (by assumption) rfl ?_
        refine r_iload_n (pc := 32) dX11_behind_32 rfl ?_
        refine rj_iald (pc := 33) (j := p) dX11_behind_33 (by first | exact isM.g0 (by assumption) | exact isM.g3 (by assumption) | exact isM.g4 (by assumption) | exact isM.g8 (by assumption) | exact isM.g7 (by assumption) | exact isM.g6 (by assumption) | exact isM.g5 (by assumption) | exact isM.g1 (by assumption) | exact isM.g2 (by assumption)) (by first | assumption | exact b01_r | exact bz_r | omega | (constructor <;> omega) | exact hM _ | exact hPo _ | exact hTa _ | exact hRo _) (by first | assumption | exact b01_r | exact bz_r | omega | (constructor <;> omega) | exact hM _ | exact hPo _ | exact hTa _ | exact hRo _) (by first | assumption | exact b01_r | exact bz_r | omega | (constructor <;> omega) | exact hM _ | exact hPo _ | exact hTa _ | exact hRo _) (by omega) ?_
        refine rj_bipush (pc := 34) dX11_behind_34 (by decide +kernel) ?_
        refine rj_icmp_ne (pc := 36) (tgt := 43) dX11_behind_36 (by decide) (by first | assumption | exact b01_r | exact bz_r | omega | (constructor <;> omega) | exact hM _ | exact hPo _ | exact hTa _ | exact hRo _) (by first | assumption | exact b01_r | exact bz_r | omega | (constructor <;> omega) | exact hM _ | exact hPo _ | exact hTa _ | exact hRo _) (fun c_36 => ?_) (fun c_36 => ?_)
        · refine r_aload_n (pc := 43) dX11_behind_43 rfl (by first | rfl | exact isRefV_rf _) ?_
          refine rm_getf (pc := 44) dX11_behind_44 fX11_21 (by assumption) rfl ?_
          refine r_iload_n (pc := 47) dX11_behind_47 rfl ?_
          refine rj_iald (pc := 48) (j := p) dX11_behind_48 (by first | exact isM.g0 (by assumption) | exact isM.g3 (by assumption) | exact isM.g4 (by assumption) | exact isM.g8 (by assumption) | exact isM.g7 (by assumption) | exact isM.g6 (by assumption) | exact isM.g5 (by assumption) | exact isM.g1 (by assumption) | exact isM.g2 (by assumption)) (by first | assumption | exact b01_r | exact bz_r | omega | (constructor <;> omega) | exact hM _ | exact hPo _ | exact hTa _ | exact hRo _) (by first | assumption | exact b01_r | exact bz_r | omega | (constructor <;> omega) | exact hM _ | exact hPo _ | exact hTa _ | exact hRo _) (by first | assumption | exact b01_r | exact bz_r | omega | (constructor <;> omega) | exact hM _ | exact hPo _ | exact hTa _ | exact hRo _) (by omega) ?_
          refine rj_bipush (pc := 49) dX11_behind_49 (by decide +kernel) ?_
          refine rj_icmp_ne (pc := 51) (tgt := 58) dX11_behind_51 (by decide) (by first | assumption | exact b01_r | exact bz_r | omega | (constructor <;> omega) | exact hM _ | exact hPo _ | exact hTa _ | exact hRo _) (by first | assumption | exact b01_r | exact bz_r | omega | (constructor <;> omega) | exact hM _ | exact hPo _ | exact hTa _ | exact hRo _) (fun c_51 => ?_) (fun c_51 => ?_)
          · refine rj_iconst (pc := 58) dX11_behind_58 ?_
            refine rj_iadd (pc := 59) dX11_behind_59 ?_
            refine r_istore (pc := 60) dX11_behind_60 (Nat.le_of_ble_eq_true rfl) ?_
            dsimp only [lsSt, List.set, mLs, mEnt]
            refine rj_iinc (pc := 62) dX11_behind_62 (Nat.le_of_ble_eq_true rfl) rfl ?_
            dsimp only [lsSt, List.set, mLs, mEnt]
            refine r_goto (pc := 65) (tgt := 5) dX11_behind_65 (by decide) ?_
            have eb : brk (pool p) = 0 := by unfold brk; rw [if_neg c_36, if_neg c_51]
            have z := ih (p + 1) (u + 0) (by omega) (by omega) (by omega)
            rw [show behL pool (n + 1) p u = behL pool n (p + 1) (u + 0) by rw [behL, if_pos (Or.inl c_12), eb]]
            exact z
          · refine rj_iconst (pc := 54) dX11_behind_54 ?_
            refine r_goto (pc := 55) (tgt := 59) dX11_behind_55 (by decide) ?_
            refine rj_iadd (pc := 59) dX11_behind_59 ?_
            refine r_istore (pc := 60) dX11_behind_60 (Nat.le_of_ble_eq_true rfl) ?_
            dsimp only [lsSt, List.set, mLs, mEnt]
            refine rj_iinc (pc := 62) dX11_behind_62 (Nat.le_of_ble_eq_true rfl) rfl ?_
            dsimp only [lsSt, List.set, mLs, mEnt]
            refine r_goto (pc := 65) (tgt := 5) dX11_behind_65 (by decide) ?_
            have eb : brk (pool p) = -1 := by unfold brk; rw [if_neg c_36, if_pos c_51]
            have z := ih (p + 1) (u + -1) (by omega) (by omega) (by omega)
            rw [show behL pool (n + 1) p u = behL pool n (p + 1) (u + -1) by rw [behL, if_pos (Or.inl c_12), eb]]
            exact z
        · refine rj_iconst (pc := 39) dX11_behind_39 ?_
          refine r_goto (pc := 40) (tgt := 59) dX11_behind_40 (by decide) ?_
          refine rj_iadd (pc := 59) dX11_behind_59 ?_
          refine r_istore (pc := 60) dX11_behind_60 (Nat.le_of_ble_eq_true rfl) ?_
          dsimp only [lsSt, List.set, mLs, mEnt]
          refine rj_iinc (pc := 62) dX11_behind_62 (Nat.le_of_ble_eq_true rfl) rfl ?_
          dsimp only [lsSt, List.set, mLs, mEnt]
          refine r_goto (pc := 65) (tgt := 5) dX11_behind_65 (by decide) ?_
          have eb : brk (pool p) = 1 := by unfold brk; rw [if_pos c_36]
          have z := ih (p + 1) (u + 1) (by omega) (by omega) (by omega)
          rw [show behL pool (n + 1) p u = behL pool n (p + 1) (u + 1) by rw [behL, if_pos (Or.inl c_12), eb]]
          exact z
      · refine r_aload_n (pc := 15) dX11_behind_15 rfl (by first | rfl | exact isRefV_rf _) ?_
        refine rm_getf (pc := 16) dX11_behind_16 fX11_21 (by assumption) rfl ?_
        refine r_iload_n (pc := 19) dX11_behind_19 rfl ?_
        refine rj_iald (pc := 20) (j := p) dX11_behind_20 (by first | exact isM.g0 (by assumption) | exact isM.g3 (by assumption) | exact isM.g4 (by assumption) | exact isM.g8 (by assumption) | exact isM.g7 (by assumption) | exact isM.g6 (by assumption) | exact isM.g5 (by assumption) | exact isM.g1 (by assumption) | exact isM.g2 (by assumption)) (by first | assumption | exact b01_r | exact bz_r | omega | (constructor <;> omega) | exact hM _ | exact hPo _ | exact hTa _ | exact hRo _) (by first | assumption | exact b01_r | exact bz_r | omega | (constructor <;> omega) | exact hM _ | exact hPo _ | exact hTa _ | exact hRo _) (by first | assumption | exact b01_r | exact bz_r | omega | (constructor <;> omega) | exact hM _ | exact hPo _ | exact hTa _ | exact hRo _) (by omega) ?_
        refine rj_bipush (pc := 21) dX11_behind_21 (by decide +kernel) ?_
        refine rj_icmp_eq (pc := 23) (tgt := 68) dX11_behind_23 (by decide) (by first | assumption | exact b01_r | exact bz_r | omega | (constructor <;> omega) | exact hM _ | exact hPo _ | exact hTa _ | exact hRo _) (by first | assumption | exact b01_r | exact bz_r | omega | (constructor <;> omega) | exact hM _ | exact hPo _ | exact hTa _ | exact hRo _) (fun c_23 => ?_) (fun c_23 => ?_)
        · refine r_iload_n (pc := 68) dX11_behind_68 rfl ?_
          refine r_ireturn (pc := 69) .int dX11_behind_69 rfl (by first | rfl | assumption) ?_
          first
          | (exfalso; omega)
          | exact ⟨by rw [behL, if_neg (by omega)], rfl⟩
        · refine r_iload (pc := 26) dX11_behind_26 rfl ?_
          refine r_aload_n (pc := 28) dX11_behind_28 rfl (by first | rfl | exact isRefV_rf _) ?_
          refine rm_getf (pc := 29) dX11_behind_29 fX11_21 (by assumption) rfl ?_
          refine r_iload_n (pc := 32) dX11_behind_32 rfl ?_
          refine rj_iald (pc := 33) (j := p) dX11_behind_33 (by first | exact isM.g0 (by assumption) | exact isM.g3 (by assumption) | exact isM.g4 (by assumption) | exact isM.g8 (by assumption) | exact isM.g7 (by assumption) | exact isM.g6 (by assumption) | exact isM.g5 (by assumption) | exact isM.g1 (by assumption) | exact isM.g2 (by assumption)) (by first | assumption | exact b01_r | exact bz_r | omega | (constructor <;> omega) | exact hM _ | exact hPo _ | exact hTa _ | exact hRo _) (by first | assumption | exact b01_r | exact bz_r | omega | (constructor <;> omega) | exact hM _ | exact hPo _ | exact hTa _ | exact hRo _) (by first | assumption | exact b01_r | exact bz_r | omega | (constructor <;> omega) | exact hM _ | exact hPo _ | exact hTa _ | exact hRo _) (by omega) ?_
          refine rj_bipush (pc := 34) dX11_behind_34 (by decide +kernel) ?_
          refine rj_icmp_ne (pc := 36) (tgt := 43) dX11_behind_36 (by decide) (by first | assumption | exact b01_r | exact bz_r | omega | (constructor <;> omega) | exact hM _ | exact hPo _ | exact hTa _ | exact hRo _) (by first | assumption | exact b01_r | exact bz_r | omega | (constructor <;> omega) | exact hM _ | exact hPo _ | exact hTa _ | exact hRo _) (fun c_36 => ?_) (fun c_36 => ?_)
          · refine r_aload_n (pc := 43) dX11_behind_43 rfl (by first | rfl | exact isRefV_rf _) ?_
            refine rm_getf (pc := 44) dX11_behind_44 fX11_21 (by assumption) rfl ?_
            refine r_iload_n (pc := 47) dX11_behind_47 rfl ?_
            refine rj_iald (pc := 48) (j := p) dX11_behind_48 (by first | exact isM.g0 (by assumption) | exact isM.g3 (by assumption) | exact isM.g4 (by assumption) | exact isM.g8 (by assumption) | exact isM.g7 (by assumption) | exact isM.g6 (by assumption) | exact isM.g5 (by assumption) | exact isM.g1 (by assumption) | exact isM.g2 (by assumption)) (by first | assumption | exact b01_r | exact bz_r | omega | (constructor <;> omega) | exact hM _ | exact hPo _ | exact hTa _ | exact hRo _) (by first | assumption | exact b01_r | exact bz_r | omega | (constructor <;> omega) | exact hM _ | exact hPo _ | exact hTa _ | exact hRo _) (by first | assumption | exact b01_r | exact bz_r | omega | (constructor <;> omega) | exact hM _ | exact hPo _ | exact hTa _ | exact hRo _) (by omega) ?_
            refine rj_bipush (pc := 49) dX11_behind_49 (by decide +kernel) ?_
            refine rj_icmp_ne (pc := 51) (tgt := 58) dX11_behind_51 (by decide) (by first | assumption | exact b01_r | exact bz_r | omega | (constructor <;> omega) | exact hM _ | exact hPo _ | exact hTa _ | exact hRo _) (by first | assumption | exact b01_r | exact bz_r | omega | (constructor <;> omega) | exact hM _ | exact hPo _ | exact hTa _ | exact hRo _) (fun c_51 => ?_) (fun c_51 => ?_)
            · refine rj_iconst (pc := 58) dX11_behind_58 ?_
              refine rj_iadd (pc := 59) dX11_behind_59 ?_
              refine r_istore (pc := 60) dX11_behind_60 (Nat.le_of_ble_eq_true rfl) ?_
              dsimp only [lsSt, List.set, mLs, mEnt]
              refine rj_iinc (pc := 62) dX11_behind_62 (Nat.le_of_ble_eq_true rfl) rfl ?_
              dsimp only [lsSt, List.set, mLs, mEnt]
              refine r_goto (pc := 65) (tgt := 5) dX11_behind_65 (by decide) ?_
              have eb : brk (pool p) = 0 := by unfold brk; rw [if_neg c_36, if_neg c_51]
              have z := ih (p + 1) (u + 0) (by omega) (by omega) (by omega)
              rw [show behL pool (n + 1) p u = behL pool n (p + 1) (u + 0) by rw [behL, if_pos (Or.inr c_23), eb]]
              exact z
            · refine rj_iconst (pc := 54) dX11_behind_54 ?_
              refine r_goto (pc := 55) (tgt := 59) dX11_behind_55 (by decide) ?_
              refine rj_iadd (pc := 59) dX11_behind_59 ?_
              refine r_istore (pc := 60) dX11_behind_60 (Nat.le_of_ble_eq_true rfl) ?_
              dsimp only [lsSt, List.set, mLs, mEnt]
              refine rj_iinc (pc := 62) dX11_behind_62 (Nat.le_of_ble_eq_true rfl) rfl ?_
              dsimp only [lsSt, List.set, mLs, mEnt]
              refine r_goto (pc := 65) (tgt := 5) dX11_behind_65 (by decide) ?_
              have eb : brk (pool p) = -1 := by unfold brk; rw [if_neg c_36, if_pos c_51]
              have z := ih (p + 1) (u + -1) (by omega) (by omega) (by omega)
              rw [show behL pool (n + 1) p u = behL pool n (p + 1) (u + -1) by rw [behL, if_pos (Or.inr c_23), eb]]
              exact z
          · refine rj_iconst (pc := 39) dX11_behind_39 ?_
            refine r_goto (pc := 40) (tgt := 59) dX11_behind_40 (by decide) ?_
            refine rj_iadd (pc := 59) dX11_behind_59 ?_
            refine r_istore (pc := 60) dX11_behind_60 (Nat.le_of_ble_eq_true rfl) ?_
            dsimp only [lsSt, List.set, mLs, mEnt]
            refine rj_iinc (pc := 62) dX11_behind_62 (Nat.le_of_ble_eq_true rfl) rfl ?_
            dsimp only [lsSt, List.set, mLs, mEnt]
            refine r_goto (pc := 65) (tgt := 5) dX11_behind_65 (by decide) ?_
            have eb : brk (pool p) = 1 := by unfold brk; rw [if_pos c_36]
            have z := ih (p + 1) (u + 1) (by omega) (by omega) (by omega)
            rw [show behL pool (n + 1) p u = behL pool n (p + 1) (u + 1) by rw [behL, if_pos (Or.inr c_23), eb]]
            exact z
set_option maxHeartbeats 4000000 in
set_option maxRecDepth 100000 in
theorem m_behind {G : mG} {l : Launch} (d : Nat) {h : mH} {x s : Nat} {f4 f6 f8 f9 f10 f11 f12 f13 f14 f16 f18 : Int} {m kp was pool tape pln pap rwd rw : Nat → Int}(hB : isM h x (mFs x f4 f6 f8 f9 f10 f11 f12 f13 f14 f16 f18 s) m kp was pool tape pln pap rwd rw) (hPo : ∀ q, InR (pool q)) {p E : Nat} (hp : p ≤ E) (hE : E ≤ 12342) : RUNM G l (d) mX11_behind [.ref x, .int (J (p : Int)), .int (J (E : Int))] h (fun v h' => v = some (.int (J (behL pool (E - p) p 0 : Nat))) ∧ h' = h) := by
  refine RUNM.of (by decide +kernel) (Nat.le_of_ble_eq_true rfl) ?_
  refine r_iload_n (pc := 0) dX11_behind_0 rfl ?_
  refine r_istore_n (pc := 1) dX11_behind_1 (Nat.le_of_ble_eq_true rfl) ?_
  dsimp only [lsSt, List.set, mLs, mEnt]
  refine rj_iconst (pc := 2) dX11_behind_2 ?_
  refine r_istore (pc := 3) dX11_behind_3 (Nat.le_of_ble_eq_true rfl) ?_
  dsimp only [lsSt, List.set, mLs, mEnt]
  exact L_behind d hB hPo hE (E - p) p 0 (by omega) (by omega) (by omega)
