/-! ===== contracts of the reference: names ===== -/
def nmL (m rc : Nat → Int) (t fr : Nat) : Nat → Nat → Bool
  | 0, _ => true
  | n + 1, k => if m (265 + 14 * t + (k - fr)) = rc k then nmL m rc t fr n (k + 1) else false
def namedB (m rc : Nat → Int) (t fr to : Nat) : Bool := decide (m (261 + 14 * t) = (to : Int) - fr) && nmL m rc t fr (to - fr) fr
/-- the row of a name: the tape's or the pool's -/
def rowOk (rs : Nat) (rc pool tape : Nat → Int) (to : Nat) : Prop := (rs = 4 ∧ rc = tape ∧ to ≤ 120) ∨ (rs = 3 ∧ rc = pool ∧ to ≤ 12342)
theorem isM.row {h : mH} {x : Nat} {fs : List Value} {m kp was pool tape pln pap rwd rw : Nat → Int} (k : isM h x fs m kp was pool tape pln pap rwd rw) {rs : Nat} {rc : Nat → Int} {to : Nat} (hR : rowOk rs rc pool tape to) : ∃ sz : Nat, hGet h (mAd x rs) = some (.inr (.inl (sz, fun q => J (rc q)))) ∧ to ≤ sz := by
  rcases hR with ⟨rfl, rfl, g⟩ | ⟨rfl, rfl, g⟩
  · exact ⟨120, k.g4, g⟩
  · exact ⟨12342, k.g3, g⟩
set_option maxHeartbeats 4000000 in
set_option maxRecDepth 100000 in
theorem L_isNamed {G : mG} {l : Launch} (d : Nat) {h : mH} {x s : Nat} {f4 f6 f8 f9 f10 f11 f12 f13 f14 f16 f18 : Int} {m kp was pool tape pln pap rwd rw : Nat → Int}(hB : isM h x (mFs x f4 f6 f8 f9 f10 f11 f12 f13 f14 f16 f18 s) m kp was pool tape pln pap rwd rw) (hM : ∀ q, InR (m q)) {rs : Nat} {rc : Nat → Int} {fr to : Nat} (hR : rowOk rs rc pool tape to) (hft : fr ≤ to) (hRo : ∀ q, InR (rc q)) {t : Nat} (ht : t ≤ 89) (h7 : to - fr ≤ 7) : ∀ n k : Nat, fr ≤ k → k + n = to → RUN G l (d + 1) mX11_isNamed 23 [some (.ref x), some (.int (J (t : Int))), some (.ref (mAd x rs)), some (.int (J (fr : Int))), some (.int (J (to : Int))), some (.int (J (k : Int)))] [] h (fun v h' => v = some (.int (J (bz (nmL m rc t fr n k)))) ∧ h' = h) := by
  dsimp only [mFs] at hB
  have hto : to ≤ 12342 := by rcases hR with ⟨-, -, g⟩ | ⟨-, -, g⟩ <;> omega
  obtain ⟨sz, hrow, hsz⟩ := isM.row hB hR
  intro n
  induction n with
  | zero =>
    intro k hk hn
    refine r_iload (pc := 23) dX11_isNamed_23 rfl ?_
    refine r_iload (pc := 25) dX11_isNamed_25 rfl ?_
    refine rj_icmp_ge (pc := 27) (tgt := 60) dX11_isNamed_27 (by decide) (by first | assumption | exact b01_r | exact bz_r | omega | (constructor <;> omega) | exact hM _ | exact hPo _ | exact hTa _ | exact hRo _) (by first | assumption | exact b01_r | exact bz_r | omega | (constructor <;> omega) | exact hM _ | exact hPo _ | exact hTa _ | exact hRo _) (fun c_27 => ?_) (fun c_27 => ?_)
    · refine rj_iconst (pc := 60) dX11_isNamed_60 ?_
      refine r_ireturn (pc := 61) .boolean dX11_isNamed_61 rfl (by first | exact nar_J0 | exact nar_J1 | exact nar_b01 | exact nar_bz) ?_
      exact ⟨bzT, rfl⟩
    · exfalso; omega
  | succ n ih =>
    intro k hk hn
    refine r_iload (pc := 23) dX11_isNamed_23 rfl ?_
    refine r_iload (pc := 25) dX11_isNamed_25 rfl ?_
    refine rj_icmp_ge (pc := 27) (tgt := 60) dX11_isNamed_27 (by decide) (by first | assumption | exact b01_r | exact bz_r | omega | (constructor <;> omega) | exact hM _ | exact hPo _ | exact hTa _ | exact hRo _) (by first | assumption | exact b01_r | exact bz_r | omega | (constructor <;> omega) | exact hM _ | exact hPo _ | exact hTa _ | exact hRo _) (fun c_27 => ?_) (fun c_27 => ?_)
    · refine rj_iconst (pc := 60) dX11_isNamed_60 ?_
      refine r_ireturn (pc := 61) .boolean dX11_isNamed_61 rfl (by first | exact nar_J0 | exact nar_J1 | exact nar_b01 | exact nar_bz) ?_
      exfalso; omega
    · refine r_aload_n (pc := 30) dX11_isNamed_30 rfl (by first | rfl | exact isRefV_rf _) ?_
      refine rm_getf (pc := 31) dX11_isNamed_31 fX11_11 (by assumption) rfl ?_
      refine r_iload_n (pc := 34) dX11_isNamed_34 rfl ?_
      refine rj_bipush (pc := 35) dX11_isNamed_35 (by decide +kernel) ?_
      refine r_iload (pc := 37) dX11_isNamed_37 rfl ?_
      refine r_iload_n (pc := 39) dX11_isNamed_39 rfl ?_
      refine rj_isub (pc := 40) dX11_isNamed_40 ?_
      refine r_callS3 (pc := 41) dX11_isNamed_41 qX11_ofThing kX11_54 sX11_ofThing (Nat.le_of_ble_eq_true rfl) (m_ofThing d) (fun v_41 h_41 q_41 => ?_)
      obtain ⟨rfl, rfl⟩ := q_41
      refine rj_iald (pc := 44) (j := 265 + 14 * t + (k - fr)) dX11_isNamed_44 (by first | exact isM.g0 (by assumption) | exact isM.g3 (by assumption) | exact isM.g4 (by assumption) | exact isM.g8 (by assumption) | exact isM.g7 (by assumption) | exact isM.g6 (by assumption) | exact isM.g5 (by assumption) | exact isM.g1 (by assumption) | exact isM.g2 (by assumption)) (by first | assumption | exact b01_r | exact bz_r | omega | (constructor <;> omega) | exact hM _ | exact hPo _ | exact hTa _ | exact hRo _) (by first | assumption | exact b01_r | exact bz_r | omega | (constructor <;> omega) | exact hM _ | exact hPo _ | exact hTa _ | exact hRo _) (by first | assumption | exact b01_r | exact bz_r | omega | (constructor <;> omega) | exact hM _ | exact hPo _ | exact hTa _ | exact hRo _) (by omega) ?_
      refine r_aload_n (pc := 45) dX11_isNamed_45 rfl (by first | rfl | exact isRefV_rf _) ?_
      refine r_iload (pc := 46) dX11_isNamed_46 rfl ?_
      refine rj_iald (pc := 48) (j := k) dX11_isNamed_48 hrow (by constructor <;> omega) (by omega) (by omega) (by omega) ?_
      refine rj_icmp_eq (pc := 49) (tgt := 54) dX11_isNamed_49 (by decide) (by first | assumption | exact b01_r | exact bz_r | omega | (constructor <;> omega) | exact hM _ | exact hPo _ | exact hTa _ | exact hRo _) (by first | assumption | exact b01_r | exact bz_r | omega | (constructor <;> omega) | exact hM _ | exact hPo _ | exact hTa _ | exact hRo _) (fun c_49 => ?_) (fun c_49 => ?_)
      · refine rj_iinc (pc := 54) dX11_isNamed_54 (Nat.le_of_ble_eq_true rfl) rfl ?_
        dsimp only [lsSt, List.set, mLs, mEnt]
        refine r_goto (pc := 57) (tgt := 23) dX11_isNamed_57 (by decide) ?_
        have z := ih (k + 1) (by omega) (by omega)
        rw [nmL, if_pos c_49]
        exact z
      · refine rj_iconst (pc := 52) dX11_isNamed_52 ?_
        refine r_ireturn (pc := 53) .boolean dX11_isNamed_53 rfl (by first | exact nar_J0 | exact nar_J1 | exact nar_b01 | exact nar_bz) ?_
        exact ⟨by rw [nmL, if_neg c_49]; exact bzF, rfl⟩
set_option maxHeartbeats 4000000 in
set_option maxRecDepth 100000 in
theorem m_isNamed {G : mG} {l : Launch} (d : Nat) {h : mH} {x s : Nat} {f4 f6 f8 f9 f10 f11 f12 f13 f14 f16 f18 : Int} {m kp was pool tape pln pap rwd rw : Nat → Int}(hB : isM h x (mFs x f4 f6 f8 f9 f10 f11 f12 f13 f14 f16 f18 s) m kp was pool tape pln pap rwd rw) (hM : ∀ q, InR (m q)) {rs : Nat} {rc : Nat → Int} {fr to : Nat} (hR : rowOk rs rc pool tape to) (hft : fr ≤ to) (hRo : ∀ q, InR (rc q)) {t : Nat} (ht : t ≤ 89) (h7 : m (261 + 14 * t) ≤ 7) : RUNM G l (d + 1) mX11_isNamed [.ref x, .int (J (t : Int)), .ref (mAd x rs), .int (J (fr : Int)), .int (J (to : Int))] h (fun v h' => v = some (.int (J (bz (namedB m rc t fr to)))) ∧ h' = h) := by
  dsimp only [mFs] at hB
  refine RUNM.of (by decide +kernel) (Nat.le_of_ble_eq_true rfl) ?_
  have hto : to ≤ 12342 := by rcases hR with ⟨-, -, g⟩ | ⟨-, -, g⟩ <;> omega
  refine r_aload_n (pc := 0) dX11_isNamed_0 rfl (by first | rfl | exact isRefV_rf _) ?_
  refine rm_getf (pc := 1) dX11_isNamed_1 fX11_11 (by assumption) rfl ?_
  refine r_iload_n (pc := 4) dX11_isNamed_4 rfl ?_
  refine rj_iconst (pc := 5) dX11_isNamed_5 ?_
  refine rj_iconst (pc := 6) dX11_isNamed_6 ?_
  refine r_callS3 (pc := 7) dX11_isNamed_7 qX11_ofThing kX11_54 sX11_ofThing (Nat.le_of_ble_eq_true rfl) (m_ofThing d) (fun v_7 h_7 q_7 => ?_)
  obtain ⟨rfl, rfl⟩ := q_7
  refine rj_iald (pc := 10) (j := 261 + 14 * t) dX11_isNamed_10 (by first | exact isM.g0 (by assumption) | exact isM.g3 (by assumption) | exact isM.g4 (by assumption) | exact isM.g8 (by assumption) | exact isM.g7 (by assumption) | exact isM.g6 (by assumption) | exact isM.g5 (by assumption) | exact isM.g1 (by assumption) | exact isM.g2 (by assumption)) (by first | assumption | exact b01_r | exact bz_r | omega | (constructor <;> omega) | exact hM _ | exact hPo _ | exact hTa _ | exact hRo _) (by first | assumption | exact b01_r | exact bz_r | omega | (constructor <;> omega) | exact hM _ | exact hPo _ | exact hTa _ | exact hRo _) (by first | assumption | exact b01_r | exact bz_r | omega | (constructor <;> omega) | exact hM _ | exact hPo _ | exact hTa _ | exact hRo _) (by omega) ?_
  refine r_iload (pc := 11) dX11_isNamed_11 rfl ?_
  refine r_iload_n (pc := 13) dX11_isNamed_13 rfl ?_
  refine rj_isub (pc := 14) dX11_isNamed_14 ?_
  refine rj_icmp_eq (pc := 15) (tgt := 20) dX11_isNamed_15 (by decide) (by first | assumption | exact b01_r | exact bz_r | omega | (constructor <;> omega) | exact hM _ | exact hPo _ | exact hTa _ | exact hRo _) (by first | assumption | exact b01_r | exact bz_r | omega | (constructor <;> omega) | exact hM _ | exact hPo _ | exact hTa _ | exact hRo _) (fun c_15 => ?_) (fun c_15 => ?_)
  · refine r_iload_n (pc := 20) dX11_isNamed_20 rfl ?_
    refine r_istore (pc := 21) dX11_isNamed_21 (Nat.le_of_ble_eq_true rfl) ?_
    dsimp only [lsSt, List.set, mLs, mEnt]
    have z := L_isNamed (G := G) (l := l) d hB hM hR hft hRo ht (by omega) (to - fr) fr (Nat.le_refl _) (by omega)
    rw [show namedB m rc t fr to = nmL m rc t fr (to - fr) fr by unfold namedB; rw [decide_eq_true (by omega), Bool.true_and]]
    exact z
  · refine rj_iconst (pc := 18) dX11_isNamed_18 ?_
    refine r_ireturn (pc := 19) .boolean dX11_isNamed_19 rfl (by first | exact nar_J0 | exact nar_J1 | exact nar_b01 | exact nar_bz) ?_
    exact ⟨by unfold namedB; rw [decide_eq_false (by omega), Bool.false_and]; exact bzF, rfl⟩
/-- the first of n things from t on that is held and has the name; -5 -/
def hbL (m rc : Nat → Int) (fr to : Nat) : Nat → Nat → Int
  | 0, _ => -5
  | n + 1, t => if heldB m t = true ∧ namedB m rc t fr to = true then t else hbL m rc fr to n (t + 1)
set_option maxHeartbeats 4000000 in
set_option maxRecDepth 100000 in
theorem L_heldBy {G : mG} {l : Launch} (d : Nat) {h : mH} {x s : Nat} {f4 f6 f8 f9 f10 f11 f12 f13 f14 f16 f18 : Int} {m kp was pool tape pln pap rwd rw : Nat → Int}(hB : isM h x (mFs x f4 f6 f8 f9 f10 f11 f12 f13 f14 f16 f18 s) m kp was pool tape pln pap rwd rw) (hM : ∀ q, InR (m q)) {rs : Nat} {rc : Nat → Int} {fr to : Nat} (hR : rowOk rs rc pool tape to) (hft : fr ≤ to) (hRo : ∀ q, InR (rc q)) {N : Nat} (hN : m 1 = (N : Int)) (hcap : N ≤ 90) (h7 : ∀ t, t < N → m (261 + 14 * t) ≤ 7) : ∀ n t : Nat, t + n = N → RUN G l (d + 3) mX11_heldBy 3 [some (.ref x), some (.ref (mAd x rs)), some (.int (J (fr : Int))), some (.int (J (to : Int))), some (.int (J (t : Int)))] [] h (fun v h' => v = some (.int (J (hbL m rc fr to n t))) ∧ h' = h) := by
  dsimp only [mFs] at hB
  have r1 := hM 1
  intro n
  induction n with
  | zero =>
    intro t ht
    refine r_iload (pc := 3) dX11_heldBy_3 rfl ?_
    refine r_aload_n (pc := 5) dX11_heldBy_5 rfl (by first | rfl | exact isRefV_rf _) ?_
    refine rm_getf (pc := 6) dX11_heldBy_6 fX11_11 (by assumption) rfl ?_
    refine rj_iconst (pc := 9) dX11_heldBy_9 ?_
    refine rj_iald (pc := 10) (j := 1) dX11_heldBy_10 (by first | exact isM.g0 (by assumption) | exact isM.g3 (by assumption) | exact isM.g4 (by assumption) | exact isM.g8 (by assumption) | exact isM.g7 (by assumption) | exact isM.g6 (by assumption) | exact isM.g5 (by assumption) | exact isM.g1 (by assumption) | exact isM.g2 (by assumption)) (by first | assumption | exact b01_r | exact bz_r | omega | (constructor <;> omega) | exact hM _ | exact hPo _ | exact hTa _ | exact hRo _) (by first | assumption | exact b01_r | exact bz_r | omega | (constructor <;> omega) | exact hM _ | exact hPo _ | exact hTa _ | exact hRo _) (by first | assumption | exact b01_r | exact bz_r | omega | (constructor <;> omega) | exact hM _ | exact hPo _ | exact hTa _ | exact hRo _) rfl ?_
    refine rj_icmp_ge (pc := 11) (tgt := 44) dX11_heldBy_11 (by decide) (by first | assumption | exact b01_r | exact bz_r | omega | (constructor <;> omega) | exact hM _ | exact hPo _ | exact hTa _ | exact hRo _) (by first | assumption | exact b01_r | exact bz_r | omega | (constructor <;> omega) | exact hM _ | exact hPo _ | exact hTa _ | exact hRo _) (fun c_11 => ?_) (fun c_11 => ?_)
    · refine rj_bipush (pc := 44) dX11_heldBy_44 (by decide +kernel) ?_
      refine r_ireturn (pc := 46) .int dX11_heldBy_46 rfl (by first | rfl | assumption) ?_
      exact ⟨rfl, rfl⟩
    · exfalso; omega
  | succ n ih =>
    intro t ht
    refine r_iload (pc := 3) dX11_heldBy_3 rfl ?_
    refine r_aload_n (pc := 5) dX11_heldBy_5 rfl (by first | rfl | exact isRefV_rf _) ?_
    refine rm_getf (pc := 6) dX11_heldBy_6 fX11_11 (by assumption) rfl ?_
    refine rj_iconst (pc := 9) dX11_heldBy_9 ?_
    refine rj_iald (pc := 10) (j := 1) dX11_heldBy_10 (by first | exact isM.g0 (by assumption) | exact isM.g3 (by assumption) | exact isM.g4 (by assumption) | exact isM.g8 (by assumption) | exact isM.g7 (by assumption) | exact isM.g6 (by assumption) | exact isM.g5 (by assumption) | exact isM.g1 (by assumption) | exact isM.g2 (by assumption)) (by first | assumption | exact b01_r | exact bz_r | omega | (constructor <;> omega) | exact hM _ | exact hPo _ | exact hTa _ | exact hRo _) (by first | assumption | exact b01_r | exact bz_r | omega | (constructor <;> omega) | exact hM _ | exact hPo _ | exact hTa _ | exact hRo _) (by first | assumption | exact b01_r | exact bz_r | omega | (constructor <;> omega) | exact hM _ | exact hPo _ | exact hTa _ | exact hRo _) rfl ?_
    refine rj_icmp_ge (pc := 11) (tgt := 44) dX11_heldBy_11 (by decide) (by first | assumption | exact b01_r | exact bz_r | omega | (constructor <;> omega) | exact hM _ | exact hPo _ | exact hTa _ | exact hRo _) (by first | assumption | exact b01_r | exact bz_r | omega | (constructor <;> omega) | exact hM _ | exact hPo _ | exact hTa _ | exact hRo _) (fun c_11 => ?_) (fun c_11 => ?_)
    · refine rj_bipush (pc := 44) dX11_heldBy_44 (by decide +kernel) ?_
      refine r_ireturn (pc := 46) .int dX11_heldBy_46 rfl (by first | rfl | assumption) ?_
      exfalso; omega
    · refine r_aload_n (pc := 14) dX11_heldBy_14 rfl (by first | rfl | exact isRefV_rf _) ?_
      refine r_iload (pc := 15) dX11_heldBy_15 rfl ?_
      refine r_callV1 (pc := 17) dX11_heldBy_17 qX11_isHeld kX11_119 vX11_isHeld (by exact isM.gx (by assumption)) rfl rfl (Nat.le_of_ble_eq_true rfl) (m_isHeld (d + 1) hB hM (by omega) (by omega)) (fun v_17 h_17 q_17 => ?_)
      obtain ⟨rfl, rfl⟩ := q_17
      refine rj_if_eq (pc := 20) (tgt := 38) dX11_heldBy_20 (by decide) (by first | assumption | exact b01_r | exact bz_r | omega | (constructor <;> omega) | exact hM _ | exact hPo _ | exact hTa _ | exact hRo _) (fun c_20 => ?_) (fun c_20 => ?_)
      · try simp only [b01_0, bz_0, Classical.not_not] at c_20
        refine rj_iinc (pc := 38) dX11_heldBy_38 (Nat.le_of_ble_eq_true rfl) rfl ?_
        dsimp only [lsSt, List.set, mLs, mEnt]
        refine r_goto (pc := 41) (tgt := 3) dX11_heldBy_41 (by decide) ?_
        have z := ih (t + 1) (by omega)
        rw [hbL, if_neg (fun g => c_20 (by simpa [heldB, ← n_held] using g.1))]
        exact z
      · try simp only [b01_0, bz_0, Classical.not_not] at c_20
        refine r_aload_n (pc := 23) dX11_heldBy_23 rfl (by first | rfl | exact isRefV_rf _) ?_
        refine r_iload (pc := 24) dX11_heldBy_24 rfl ?_
        refine r_aload_n (pc := 26) dX11_heldBy_26 rfl (by first | rfl | exact isRefV_rf _) ?_
        refine r_iload_n (pc := 27) dX11_heldBy_27 rfl ?_
        refine r_iload_n (pc := 28) dX11_heldBy_28 rfl ?_
        refine r_callV4 (pc := 29) dX11_heldBy_29 qX11_isNamed kX11_122 vX11_isNamed (by exact isM.gx (by assumption)) rfl rfl (Nat.le_of_ble_eq_true rfl) (m_isNamed (d + 1) hB hM hR hft hRo (by omega) (h7 t (by omega))) (fun v_29 h_29 q_29 => ?_)
        obtain ⟨rfl, rfl⟩ := q_29
        refine rj_if_eq (pc := 32) (tgt := 38) dX11_heldBy_32 (by decide) (by first | assumption | exact b01_r | exact bz_r | omega | (constructor <;> omega) | exact hM _ | exact hPo _ | exact hTa _ | exact hRo _) (fun c_32 => ?_) (fun c_32 => ?_)
        · try simp only [b01_0, bz_0, Classical.not_not] at c_32
          refine rj_iinc (pc := 38) dX11_heldBy_38 (Nat.le_of_ble_eq_true rfl) rfl ?_
          dsimp only [lsSt, List.set, mLs, mEnt]
          refine r_goto (pc := 41) (tgt := 3) dX11_heldBy_41 (by decide) ?_
          have z := ih (t + 1) (by omega)
          rw [hbL, if_neg (fun g => c_32 g.2)]
          exact z
        · try simp only [b01_0, bz_0, Classical.not_not] at c_32
          refine r_iload (pc := 35) dX11_heldBy_35 rfl ?_
          refine r_ireturn (pc := 37) .int dX11_heldBy_37 rfl (by first | rfl | assumption) ?_
          exact ⟨by rw [hbL, if_pos ⟨by simpa [heldB, ← n_held] using c_20, c_32⟩], rfl⟩
set_option maxHeartbeats 4000000 in
set_option maxRecDepth 100000 in
theorem m_heldBy {G : mG} {l : Launch} (d : Nat) {h : mH} {x s : Nat} {f4 f6 f8 f9 f10 f11 f12 f13 f14 f16 f18 : Int} {m kp was pool tape pln pap rwd rw : Nat → Int}(hB : isM h x (mFs x f4 f6 f8 f9 f10 f11 f12 f13 f14 f16 f18 s) m kp was pool tape pln pap rwd rw) (hM : ∀ q, InR (m q)) {rs : Nat} {rc : Nat → Int} {fr to : Nat} (hR : rowOk rs rc pool tape to) (hft : fr ≤ to) (hRo : ∀ q, InR (rc q)) {N : Nat} (hN : m 1 = (N : Int)) (hcap : N ≤ 90) (h7 : ∀ t, t < N → m (261 + 14 * t) ≤ 7) : RUNM G l (d + 3) mX11_heldBy [.ref x, .ref (mAd x rs), .int (J (fr : Int)), .int (J (to : Int))] h (fun v h' => v = some (.int (J (hbL m rc fr to N 0))) ∧ h' = h) := by
  refine RUNM.of (by decide +kernel) (Nat.le_of_ble_eq_true rfl) ?_
  refine rj_iconst (pc := 0) dX11_heldBy_0 ?_
  refine r_istore (pc := 1) dX11_heldBy_1 (Nat.le_of_ble_eq_true rfl) ?_
  dsimp only [lsSt, List.set, mLs, mEnt]
  exact L_heldBy d hB hM hR hft hRo hN hcap h7 N 0 (by omega)
