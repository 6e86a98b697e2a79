/-! ===== contracts of the reference: fault, entry, isFine, row ===== -/
def faultV (m : Nat → Int) (N : Nat) (t k w : Int) : Int := if (t = -1 ∨ (0 ≤ t ∧ t ≤ m 3 - 1)) ∧ (0 ≤ w ∧ w ≤ 1) ∧ (0 ≤ k ∧ k ≤ manyV m N t - 1) then faultAtV m N t k w else -1
theorem manyV_r {m : Nat → Int} {N : Nat} {t : Int} (hcap : N ≤ 120) (h5 : 0 ≤ m 5 ∧ m 5 ≤ 120) : 0 ≤ manyV m N t ∧ manyV m N t ≤ 121 := by
  have r4 := cnt_r (faultB m t) N
  unfold manyV
  split
  · split <;> omega
  · omega
set_option maxHeartbeats 4000000 in
set_option maxRecDepth 100000 in
theorem m_fault {G : mG} {l : Launch} (d : Nat) {h : mH} {x s : Nat} {f4 f6 f8 f9 f10 f11 f12 f13 f14 f16 f18 : Int} {m kp was pool tape pln pap rwd rw : Nat → Int}(hB : isM h x (mFs x f4 f6 f8 f9 f10 f11 f12 f13 f14 f16 f18 s) m kp was pool tape pln pap rwd rw) (hM : ∀ q, InR (m q)) (h3 : 0 ≤ m 3 ∧ m 3 ≤ 10) {N : Nat} (hN : m 4 = (N : Int)) (hcap : N ≤ 120) (h5 : 0 ≤ m 5 ∧ m 5 ≤ 120) {t k w : Int} (ht : InR t) (hk : InR k) (hw : InR w) : RUNM G l (d + 4) mX11_fault [.ref x, .int (J t), .int (J k), .int (J w)] h (fun v h' => v = some (.int (J (faultV m N t k w))) ∧ h' = h) := by
  have hB0 := hB
  dsimp only [mFs] at hB
  refine RUNM.of (by decide +kernel) (Nat.le_of_ble_eq_true rfl) ?_
  have rm := manyV_r (t := t) hcap h5
  refine r_aload_n (pc := 0) dX11_fault_0 rfl (by first | rfl | exact isRefV_rf _) ?_
  refine r_iload_n (pc := 1) dX11_fault_1 rfl ?_
  refine r_callV1 (pc := 2) dX11_fault_2 qX11_hasFaults kX11_229 vX11_hasFaults (by exact isM.gx (by assumption)) rfl rfl (Nat.le_of_ble_eq_true rfl) (m_hasFaults (d + 1) hB0 hM h3 ht) (fun v_2 h_2 q_2 => ?_)
  obtain ⟨rfl, rfl⟩ := q_2
  refine rj_if_eq (pc := 5) (tgt := 42) dX11_fault_5 (by decide) (by first | assumption | exact b01_r | exact bz_r | omega | (constructor <;> omega) | exact hM _ | exact hPo _ | exact hTa _ | exact hRo _) (fun c_5 => ?_) (fun c_5 => ?_)
  · try simp only [b01_0, bz_0, Classical.not_not] at c_5
    refine rj_iconst (pc := 42) dX11_fault_42 ?_
    refine r_ireturn (pc := 43) .int dX11_fault_43 rfl (by first | rfl | assumption) ?_
    first
    | exact ⟨by unfold faultV; rw [if_neg (fun g => c_5 g.1)], rfl⟩
    | exact ⟨by unfold faultV; rw [if_neg (fun g => c_14 g.2.1)], rfl⟩
    | exact ⟨by unfold faultV; rw [if_neg (fun g => c_29 g.2.2)], rfl⟩
    | exact ⟨by unfold faultV; rw [if_pos ⟨c_5, c_14, c_29⟩], rfl⟩
  · try simp only [b01_0, bz_0, Classical.not_not] at c_5
    refine r_iload_n (pc := 8) dX11_fault_8 rfl ?_
    refine rj_iconst (pc := 9) dX11_fault_9 ?_
    refine rj_iconst (pc := 10) dX11_fault_10 ?_
    refine r_callS3 (pc := 11) dX11_fault_11 qX11_isIn kX11_46 sX11_isIn (Nat.le_of_ble_eq_true rfl) (m_isIn (d + 3) hw (by decide) (by decide)) (fun v_11 h_11 q_11 => ?_)
    obtain ⟨rfl, rfl⟩ := q_11
    refine rj_if_eq (pc := 14) (tgt := 42) dX11_fault_14 (by decide) (by first | assumption | exact b01_r | exact bz_r | omega | (constructor <;> omega) | exact hM _ | exact hPo _ | exact hTa _ | exact hRo _) (fun c_14 => ?_) (fun c_14 => ?_)
    · try simp only [b01_0, bz_0, Classical.not_not] at c_14
      refine rj_iconst (pc := 42) dX11_fault_42 ?_
      refine r_ireturn (pc := 43) .int dX11_fault_43 rfl (by first | rfl | assumption) ?_
      first
      | exact ⟨by unfold faultV; rw [if_neg (fun g => c_5 g.1)], rfl⟩
      | exact ⟨by unfold faultV; rw [if_neg (fun g => c_14 g.2.1)], rfl⟩
      | exact ⟨by unfold faultV; rw [if_neg (fun g => c_29 g.2.2)], rfl⟩
      | exact ⟨by unfold faultV; rw [if_pos ⟨c_5, c_14, c_29⟩], rfl⟩
    · try simp only [b01_0, bz_0, Classical.not_not] at c_14
      refine r_iload_n (pc := 17) dX11_fault_17 rfl ?_
      refine rj_iconst (pc := 18) dX11_fault_18 ?_
      refine r_aload_n (pc := 19) dX11_fault_19 rfl (by first | rfl | exact isRefV_rf _) ?_
      refine r_iload_n (pc := 20) dX11_fault_20 rfl ?_
      refine r_callV1 (pc := 21) dX11_fault_21 qX11_manyFaults kX11_232 vX11_manyFaults (by exact isM.gx (by assumption)) rfl rfl (Nat.le_of_ble_eq_true rfl) (m_manyFaults d hB0 hM hN hcap ht (by omega)) (fun v_21 h_21 q_21 => ?_)
      obtain ⟨rfl, rfl⟩ := q_21
      refine rj_iconst (pc := 24) dX11_fault_24 ?_
      refine rj_isub (pc := 25) dX11_fault_25 ?_
      refine r_callS3 (pc := 26) dX11_fault_26 qX11_isIn kX11_46 sX11_isIn (Nat.le_of_ble_eq_true rfl) (m_isIn (d + 3) hk (by decide) ⟨by omega, by omega⟩) (fun v_26 h_26 q_26 => ?_)
      obtain ⟨rfl, rfl⟩ := q_26
      refine rj_if_eq (pc := 29) (tgt := 42) dX11_fault_29 (by decide) (by first | assumption | exact b01_r | exact bz_r | omega | (constructor <;> omega) | exact hM _ | exact hPo _ | exact hTa _ | exact hRo _) (fun c_29 => ?_) (fun c_29 => ?_)
      · try simp only [b01_0, bz_0, Classical.not_not] at c_29
        refine rj_iconst (pc := 42) dX11_fault_42 ?_
        refine r_ireturn (pc := 43) .int dX11_fault_43 rfl (by first | rfl | assumption) ?_
        first
        | exact ⟨by unfold faultV; rw [if_neg (fun g => c_5 g.1)], rfl⟩
        | exact ⟨by unfold faultV; rw [if_neg (fun g => c_14 g.2.1)], rfl⟩
        | exact ⟨by unfold faultV; rw [if_neg (fun g => c_29 g.2.2)], rfl⟩
        | exact ⟨by unfold faultV; rw [if_pos ⟨c_5, c_14, c_29⟩], rfl⟩
      · try simp only [b01_0, bz_0, Classical.not_not] at c_29
        refine r_aload_n (pc := 32) dX11_fault_32 rfl (by first | rfl | exact isRefV_rf _) ?_
        refine r_iload_n (pc := 33) dX11_fault_33 rfl ?_
        refine r_iload_n (pc := 34) dX11_fault_34 rfl ?_
        refine r_iload_n (pc := 35) dX11_fault_35 rfl ?_
        refine r_callV3 (pc := 36) dX11_fault_36 qX11_faultAt kX11_235 vX11_faultAt (by exact isM.gx (by assumption)) rfl rfl (Nat.le_of_ble_eq_true rfl) (m_faultAt (d + 2) hB0 hM hN hcap ht c_14 (by omega) (by omega) (by omega) (by omega)) (fun v_36 h_36 q_36 => ?_)
        obtain ⟨rfl, rfl⟩ := q_36
        refine r_goto (pc := 39) (tgt := 43) dX11_fault_39 (by decide) ?_
        refine r_ireturn (pc := 43) .int dX11_fault_43 rfl (by first | rfl | assumption) ?_
        first
        | exact ⟨by unfold faultV; rw [if_neg (fun g => c_5 g.1)], rfl⟩
        | exact ⟨by unfold faultV; rw [if_neg (fun g => c_14 g.2.1)], rfl⟩
        | exact ⟨by unfold faultV; rw [if_neg (fun g => c_29 g.2.2)], rfl⟩
        | exact ⟨by unfold faultV; rw [if_pos ⟨c_5, c_14, c_29⟩], rfl⟩
def stampI (m : Nat → Int) (e : Int) : Int := if e < 100 then m (260 + 14 * e).toNat else m (20 + 4 * (e - 100)).toNat
theorem stampI_r {m : Nat → Int} (hM : ∀ q, InR (m q)) (e : Int) : InR (stampI m e) := by unfold stampI; split <;> exact hM _
theorem eaL_r {m : Nat → Int} {N C : Nat} {a st : Int} : ∀ (n e : Nat) (f : Int), -5 ≤ f → f < e → -5 ≤ eaL m N C a st n e f ∧ eaL m N C a st n e f < e + n
  | 0, e, f, h1, h2 => by unfold eaL; omega
  | n + 1, e, f, h1, h2 => by
    unfold eaL
    split
    · have z := eaL_r (m := m) (N := N) (C := C) (a := a) (st := st) n (e + 1) (e : Int) (by omega) (by omega)
      omega
    · have z := eaL_r (m := m) (N := N) (C := C) (a := a) (st := st) n (e + 1) f h1 (by omega)
      omega
def eaV (m : Nat → Int) (N C : Nat) (a st : Int) : Int := eaL m N C a st 160 0 (-5)
theorem eaV_r {m : Nat → Int} {N C : Nat} {a st : Int} : -5 ≤ eaV m N C a st ∧ eaV m N C a st ≤ 159 := by
  have z := eaL_r (m := m) (N := N) (C := C) (a := a) (st := st) 160 0 (-5) (by decide) (by decide)
  unfold eaV
  omega
def enL (m : Nat → Int) (N C : Nat) (a : Int) : Nat → Int → Int
  | 0, f => f
  | n + 1, f => enL m N C a n (eaV m N C a (stampI m f))
def entryV (m : Nat → Int) (N C : Nat) (a k : Int) : Int := if (0 ≤ a ∧ a ≤ m 0 - 1) ∧ (0 ≤ k ∧ k ≤ entsN m a N C - 1) then enL m N C a (entsN m a N C - 1 - k).toNat (eaV m N C a (m 6 + 1)) else -1
theorem entsN_r {m : Nat → Int} {N C : Nat} {a : Int} (hcap : N ≤ 90) (hC2 : C ≤ 60) : 0 ≤ entsN m a N C ∧ entsN m a N C ≤ 150 := by
  have r1 := cnt_r (entTB m a) N
  have r2 := cnt_r (entSC m a) C
  unfold entsN
  omega
set_option maxHeartbeats 4000000 in
set_option maxRecDepth 100000 in
theorem m_stampOfI {G : mG} {l : Launch} (d : Nat) {h : mH} {x s : Nat} {f4 f6 f8 f9 f10 f11 f12 f13 f14 f16 f18 : Int} {m kp was pool tape pln pap rwd rw : Nat → Int}(hB : isM h x (mFs x f4 f6 f8 f9 f10 f11 f12 f13 f14 f16 f18 s) m kp was pool tape pln pap rwd rw) {e : Int} (he : e ≤ 159) (he0 : -5 ≤ e) : RUNM G l (d + 1) mX11_stampOf [.ref x, .int (J e)] h (fun v h' => v = some (.int (J (stampI m e))) ∧ h' = h) := by
  dsimp only [mFs] at hB
  refine RUNM.of (by decide +kernel) (Nat.le_of_ble_eq_true rfl) ?_
  refine r_iload_n (pc := 0) dX11_stampOf_0 rfl ?_
  refine rj_bipush (pc := 1) dX11_stampOf_1 (by decide +kernel) ?_
  refine rj_icmp_ge (pc := 3) (tgt := 20) dX11_stampOf_3 (by decide) (by first | assumption | exact b01_r | exact bz_r | omega | (constructor <;> omega) | exact hM _ | exact hPo _ | exact hTa _ | exact hRo _) (by first | assumption | exact b01_r | exact bz_r | omega | (constructor <;> omega) | exact hM _ | exact hPo _ | exact hTa _ | exact hRo _) (fun c_3 => ?_) (fun c_3 => ?_)
  · refine r_aload_n (pc := 20) dX11_stampOf_20 rfl (by first | rfl | exact isRefV_rf _) ?_
    refine rm_getf (pc := 21) dX11_stampOf_21 fX11_11 (by assumption) rfl ?_
    refine r_iload_n (pc := 24) dX11_stampOf_24 rfl ?_
    refine rj_bipush (pc := 25) dX11_stampOf_25 (by decide +kernel) ?_
    refine rj_isub (pc := 27) dX11_stampOf_27 ?_
    refine rj_iconst (pc := 28) dX11_stampOf_28 ?_
    refine r_callS2 (pc := 29) dX11_stampOf_29 qX11_ofScope kX11_42 sX11_ofScope (Nat.le_of_ble_eq_true rfl) (m_ofScope d) (fun v_29 h_29 q_29 => ?_)
    obtain ⟨rfl, rfl⟩ := q_29
    refine rj_iald (pc := 32) (j := (20 + 4 * (e - 100)).toNat) dX11_stampOf_32 (by first | exact isM.g0 (by assumption) | exact isM.g3 (by assumption) | exact isM.g4 (by assumption) | exact isM.g8 (by assumption) | exact isM.g7 (by assumption) | exact isM.g6 (by assumption) | exact isM.g5 (by assumption) | exact isM.g1 (by assumption) | exact isM.g2 (by assumption)) (by first | assumption | exact b01_r | exact bz_r | omega | (constructor <;> omega) | exact hM _ | exact hPo _ | exact hTa _ | exact hRo _) (by first | assumption | exact b01_r | exact bz_r | omega | (constructor <;> omega) | exact hM _ | exact hPo _ | exact hTa _ | exact hRo _) (by first | assumption | exact b01_r | exact bz_r | omega | (constructor <;> omega) | exact hM _ | exact hPo _ | exact hTa _ | exact hRo _) (by omega) ?_
    refine r_ireturn (pc := 33) .int dX11_stampOf_33 rfl (by first | rfl | assumption) ?_
    first
    | exact ⟨by unfold stampI; rw [if_pos (by omega)], rfl⟩
    | exact ⟨by unfold stampI; rw [if_neg (by omega)], rfl⟩
  · refine r_aload_n (pc := 6) dX11_stampOf_6 rfl (by first | rfl | exact isRefV_rf _) ?_
    refine rm_getf (pc := 7) dX11_stampOf_7 fX11_11 (by assumption) rfl ?_
    refine r_iload_n (pc := 10) dX11_stampOf_10 rfl ?_
    refine rj_iconst (pc := 11) dX11_stampOf_11 ?_
    refine rj_iconst (pc := 12) dX11_stampOf_12 ?_
    refine r_callS3 (pc := 13) dX11_stampOf_13 qX11_ofThing kX11_54 sX11_ofThing (Nat.le_of_ble_eq_true rfl) (m_ofThing d) (fun v_13 h_13 q_13 => ?_)
    obtain ⟨rfl, rfl⟩ := q_13
    refine rj_iald (pc := 16) (j := (260 + 14 * e).toNat) dX11_stampOf_16 (by first | exact isM.g0 (by assumption) | exact isM.g3 (by assumption) | exact isM.g4 (by assumption) | exact isM.g8 (by assumption) | exact isM.g7 (by assumption) | exact isM.g6 (by assumption) | exact isM.g5 (by assumption) | exact isM.g1 (by assumption) | exact isM.g2 (by assumption)) (by first | assumption | exact b01_r | exact bz_r | omega | (constructor <;> omega) | exact hM _ | exact hPo _ | exact hTa _ | exact hRo _) (by first | assumption | exact b01_r | exact bz_r | omega | (constructor <;> omega) | exact hM _ | exact hPo _ | exact hTa _ | exact hRo _) (by first | assumption | exact b01_r | exact bz_r | omega | (constructor <;> omega) | exact hM _ | exact hPo _ | exact hTa _ | exact hRo _) (by omega) ?_
    refine r_goto (pc := 17) (tgt := 33) dX11_stampOf_17 (by decide) ?_
    refine r_ireturn (pc := 33) .int dX11_stampOf_33 rfl (by first | rfl | assumption) ?_
    first
    | exact ⟨by unfold stampI; rw [if_pos (by omega)], rfl⟩
    | exact ⟨by unfold stampI; rw [if_neg (by omega)], rfl⟩
set_option maxHeartbeats 4000000 in
set_option maxRecDepth 100000 in
theorem L_entry {G : mG} {l : Launch} (d : Nat) {h : mH} {x s : Nat} {f4 f6 f8 f9 f10 f11 f12 f13 f14 f16 f18 : Int} {m kp was pool tape pln pap rwd rw : Nat → Int}(hB : isM h x (mFs x f4 f6 f8 f9 f10 f11 f12 f13 f14 f16 f18 s) m kp was pool tape pln pap rwd rw) (hM : ∀ q, InR (m q)) {N C : Nat} (hN : m 1 = (N : Int)) (hcap : N ≤ 90) (hC : m 0 = (C : Int)) (hC1 : 1 ≤ C) (hC2 : C ≤ 60) {a k : Int} (ha : InR a) : ∀ (n : Nat) (f : Int), -5 ≤ f → f ≤ 159 → 0 ≤ k → k + n ≤ 1000 → RUN G l (d + 4) mX11_entry 49 [some (.ref x), some (.int (J a)), some (.int (J k)), some (.int (J f)), some (.int (J (k + n)))] [] h (fun v h' => v = some (.int (J (enL m N C a n f))) ∧ h' = h) := by
  have hB0 := hB
  dsimp only [mFs] at hB
  intro n
  induction n with
  | zero =>
    intro f h0 h1 h2 h3
    refine r_iload (pc := 49) dX11_entry_49 rfl ?_
    refine r_iload_n (pc := 51) dX11_entry_51 rfl ?_
    refine rj_icmp_le (pc := 52) (tgt := 72) dX11_entry_52 (by decide) (by first | assumption | exact b01_r | exact bz_r | omega | (constructor <;> omega) | exact hM _ | exact hPo _ | exact hTa _ | exact hRo _) (by first | assumption | exact b01_r | exact bz_r | omega | (constructor <;> omega) | exact hM _ | exact hPo _ | exact hTa _ | exact hRo _) (fun c_52 => ?_) (fun c_52 => ?_)
    · refine r_iload_n (pc := 72) dX11_entry_72 rfl ?_
      refine r_ireturn (pc := 73) .int dX11_entry_73 rfl (by first | rfl | assumption) ?_
      exact ⟨rfl, rfl⟩
    · exfalso; omega
  | succ n ih =>
    intro f h0 h1 h2 h3
    have rr := eaV_r (m := m) (N := N) (C := C) (a := a) (st := stampI m f)
    refine r_iload (pc := 49) dX11_entry_49 rfl ?_
    refine r_iload_n (pc := 51) dX11_entry_51 rfl ?_
    refine rj_icmp_le (pc := 52) (tgt := 72) dX11_entry_52 (by decide) (by first | assumption | exact b01_r | exact bz_r | omega | (constructor <;> omega) | exact hM _ | exact hPo _ | exact hTa _ | exact hRo _) (by first | assumption | exact b01_r | exact bz_r | omega | (constructor <;> omega) | exact hM _ | exact hPo _ | exact hTa _ | exact hRo _) (fun c_52 => ?_) (fun c_52 => ?_)
    · refine r_iload_n (pc := 72) dX11_entry_72 rfl ?_
      refine r_ireturn (pc := 73) .int dX11_entry_73 rfl (by first | rfl | assumption) ?_
      exfalso; omega
    · refine r_aload_n (pc := 55) dX11_entry_55 rfl (by first | rfl | exact isRefV_rf _) ?_
      refine r_iload_n (pc := 56) dX11_entry_56 rfl ?_
      refine r_aload_n (pc := 57) dX11_entry_57 rfl (by first | rfl | exact isRefV_rf _) ?_
      refine r_iload_n (pc := 58) dX11_entry_58 rfl ?_
      refine r_callV1 (pc := 59) dX11_entry_59 qX11_stampOf kX11_258 vX11_stampOf (by exact isM.gx (by assumption)) rfl rfl (Nat.le_of_ble_eq_true rfl) (m_stampOfI (d + 2) hB0 (by omega) (by omega)) (fun v_59 h_59 q_59 => ?_)
      obtain ⟨rfl, rfl⟩ := q_59
      refine r_callV2 (pc := 62) dX11_entry_62 qX11_entryAhead kX11_261 vX11_entryAhead (by exact isM.gx (by assumption)) rfl rfl (Nat.le_of_ble_eq_true rfl) (m_entryAhead d hB0 hM hN hcap hC hC2 ha (stampI_r hM _)) (fun v_62 h_62 q_62 => ?_)
      obtain ⟨rfl, rfl⟩ := q_62
      refine r_istore_n (pc := 65) dX11_entry_65 (Nat.le_of_ble_eq_true rfl) ?_
      dsimp only [lsSt, List.set, mLs, mEnt]
      refine rj_iinc (pc := 66) dX11_entry_66 (Nat.le_of_ble_eq_true rfl) rfl ?_
      dsimp only [lsSt, List.set, mLs, mEnt]
      refine r_goto (pc := 69) (tgt := 49) dX11_entry_69 (by decide) ?_
      have z := ih (eaV m N C a (stampI m f)) rr.1 rr.2 h2 (by omega)
      rw [show k + ((n + 1 : Nat) : Int) + -1 = k + n by omega]
      exact z
set_option maxHeartbeats 4000000 in
set_option maxRecDepth 100000 in
theorem m_entry {G : mG} {l : Launch} (d : Nat) {h : mH} {x s : Nat} {f4 f6 f8 f9 f10 f11 f12 f13 f14 f16 f18 : Int} {m kp was pool tape pln pap rwd rw : Nat → Int}(hB : isM h x (mFs x f4 f6 f8 f9 f10 f11 f12 f13 f14 f16 f18 s) m kp was pool tape pln pap rwd rw) (hM : ∀ q, InR (m q)) {N C : Nat} (hN : m 1 = (N : Int)) (hcap : N ≤ 90) (hC : m 0 = (C : Int)) (hC1 : 1 ≤ C) (hC2 : C ≤ 60) {a k : Int} (ha : InR a) (hk : InR k) (h6 : InR (m 6 + 1)) : RUNM G l (d + 4) mX11_entry [.ref x, .int (J a), .int (J k)] h (fun v h' => v = some (.int (J (entryV m N C a k))) ∧ h' = h) := by
  have hB0 := hB
  dsimp only [mFs] at hB
  refine RUNM.of (by decide +kernel) (Nat.le_of_ble_eq_true rfl) ?_
  have r0 := hM 0
  have rr := entsN_r (m := m) (a := a) hcap hC2
  have ra := eaV_r (m := m) (N := N) (C := C) (a := a) (st := m 6 + 1)
  refine r_aload_n (pc := 0) dX11_entry_0 rfl (by first | rfl | exact isRefV_rf _) ?_
  refine r_iload_n (pc := 1) dX11_entry_1 rfl ?_
  refine r_callV1 (pc := 2) dX11_entry_2 qX11_isScope kX11_50 vX11_isScope (by exact isM.gx (by assumption)) rfl rfl (Nat.le_of_ble_eq_true rfl) (m_isScope (d + 2) hB0 ha ⟨by omega, by omega⟩) (fun v_2 h_2 q_2 => ?_)
  obtain ⟨rfl, rfl⟩ := q_2
  refine rj_if_eq (pc := 5) (tgt := 23) dX11_entry_5 (by decide) (by first | assumption | exact b01_r | exact bz_r | omega | (constructor <;> omega) | exact hM _ | exact hPo _ | exact hTa _ | exact hRo _) (fun c_5 => ?_) (fun c_5 => ?_)
  · try simp only [b01_0, bz_0, Classical.not_not] at c_5
    refine rj_iconst (pc := 23) dX11_entry_23 ?_
    refine r_ireturn (pc := 24) .int dX11_entry_24 rfl (by first | rfl | assumption) ?_
    first
    | exact ⟨by unfold entryV; rw [if_neg (fun g => c_5 g.1)], rfl⟩
    | exact ⟨by unfold entryV; rw [if_neg (fun g => c_20 g.2)], rfl⟩
  · try simp only [b01_0, bz_0, Classical.not_not] at c_5
    refine r_iload_n (pc := 8) dX11_entry_8 rfl ?_
    refine rj_iconst (pc := 9) dX11_entry_9 ?_
    refine r_aload_n (pc := 10) dX11_entry_10 rfl (by first | rfl | exact isRefV_rf _) ?_
    refine r_iload_n (pc := 11) dX11_entry_11 rfl ?_
    refine r_callV1 (pc := 12) dX11_entry_12 qX11_entries kX11_241 vX11_entries (by exact isM.gx (by assumption)) rfl rfl (Nat.le_of_ble_eq_true rfl) (m_entries (d + 1) hB0 hM hN hcap hC hC1 hC2 ha) (fun v_12 h_12 q_12 => ?_)
    obtain ⟨rfl, rfl⟩ := q_12
    refine rj_iconst (pc := 15) dX11_entry_15 ?_
    refine rj_isub (pc := 16) dX11_entry_16 ?_
    refine r_callS3 (pc := 17) dX11_entry_17 qX11_isIn kX11_46 sX11_isIn (Nat.le_of_ble_eq_true rfl) (m_isIn (d + 3) hk (by decide) ⟨by omega, by omega⟩) (fun v_17 h_17 q_17 => ?_)
    obtain ⟨rfl, rfl⟩ := q_17
    refine rj_if_ne (pc := 20) (tgt := 25) dX11_entry_20 (by decide) (by first | assumption | exact b01_r | exact bz_r | omega | (constructor <;> omega) | exact hM _ | exact hPo _ | exact hTa _ | exact hRo _) (fun c_20 => ?_) (fun c_20 => ?_)
    · try simp only [b01_0, bz_0, Classical.not_not] at c_20
      refine r_aload_n (pc := 25) dX11_entry_25 rfl (by first | rfl | exact isRefV_rf _) ?_
      refine r_iload_n (pc := 26) dX11_entry_26 rfl ?_
      refine r_aload_n (pc := 27) dX11_entry_27 rfl (by first | rfl | exact isRefV_rf _) ?_
      refine rm_getf (pc := 28) dX11_entry_28 fX11_11 (by assumption) rfl ?_
      refine rj_bipush (pc := 31) dX11_entry_31 (by decide +kernel) ?_
      refine rj_iald (pc := 33) (j := 6) dX11_entry_33 (by first | exact isM.g0 (by assumption) | exact isM.g3 (by assumption) | exact isM.g4 (by assumption) | exact isM.g8 (by assumption) | exact isM.g7 (by assumption) | exact isM.g6 (by assumption) | exact isM.g5 (by assumption) | exact isM.g1 (by assumption) | exact isM.g2 (by assumption)) (by first | assumption | exact b01_r | exact bz_r | omega | (constructor <;> omega) | exact hM _ | exact hPo _ | exact hTa _ | exact hRo _) (by first | assumption | exact b01_r | exact bz_r | omega | (constructor <;> omega) | exact hM _ | exact hPo _ | exact hTa _ | exact hRo _) (by first | assumption | exact b01_r | exact bz_r | omega | (constructor <;> omega) | exact hM _ | exact hPo _ | exact hTa _ | exact hRo _) rfl ?_
      refine rj_iconst (pc := 34) dX11_entry_34 ?_
      refine rj_iadd (pc := 35) dX11_entry_35 ?_
      refine r_callV2 (pc := 36) dX11_entry_36 qX11_entryAhead kX11_261 vX11_entryAhead (by exact isM.gx (by assumption)) rfl rfl (Nat.le_of_ble_eq_true rfl) (m_entryAhead d hB0 hM hN hcap hC hC2 ha h6) (fun v_36 h_36 q_36 => ?_)
      obtain ⟨rfl, rfl⟩ := q_36
      refine r_istore_n (pc := 39) dX11_entry_39 (Nat.le_of_ble_eq_true rfl) ?_
      dsimp only [lsSt, List.set, mLs, mEnt]
      refine r_aload_n (pc := 40) dX11_entry_40 rfl (by first | rfl | exact isRefV_rf _) ?_
      refine r_iload_n (pc := 41) dX11_entry_41 rfl ?_
      refine r_callV1 (pc := 42) dX11_entry_42 qX11_entries kX11_241 vX11_entries (by exact isM.gx (by assumption)) rfl rfl (Nat.le_of_ble_eq_true rfl) (m_entries (d + 1) hB0 hM hN hcap hC hC1 hC2 ha) (fun v_42 h_42 q_42 => ?_)
      obtain ⟨rfl, rfl⟩ := q_42
      refine rj_iconst (pc := 45) dX11_entry_45 ?_
      refine rj_isub (pc := 46) dX11_entry_46 ?_
      refine r_istore (pc := 47) dX11_entry_47 (Nat.le_of_ble_eq_true rfl) ?_
      dsimp only [lsSt, List.set, mLs, mEnt]
      have z := L_entry (G := G) (l := l) d (k := k) hB0 hM hN hcap hC hC1 hC2 ha (entsN m a N C - 1 - k).toNat (eaV m N C a (m 6 + 1)) ra.1 ra.2 (by omega) (by omega)
      rw [show k + ((entsN m a N C - 1 - k).toNat : Int) = entsN m a N C - 1 by omega] at z
      rw [show entryV m N C a k = enL m N C a (entsN m a N C - 1 - k).toNat (eaV m N C a (m 6 + 1)) by unfold entryV; rw [if_pos ⟨c_5, c_20⟩]]
      exact z
    · try simp only [b01_0, bz_0, Classical.not_not] at c_20
      refine rj_iconst (pc := 23) dX11_entry_23 ?_
      refine r_ireturn (pc := 24) .int dX11_entry_24 rfl (by first | rfl | assumption) ?_
      first
      | exact ⟨by unfold entryV; rw [if_neg (fun g => c_5 g.1)], rfl⟩
      | exact ⟨by unfold entryV; rw [if_neg (fun g => c_20 g.2)], rfl⟩
