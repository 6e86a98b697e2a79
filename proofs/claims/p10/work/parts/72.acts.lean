/-! ===== the reference: close, shut, thoughts, the image ===== -/
theorem arrV_same {cI : ClassId} {n : Nat} {f g : Nat → Value} (h : ∀ j, j < n → f j = g j) : arrV cI n f = arrV cI n g := by
  unfold arrV
  rw [show (fun j : Fin n => f j.val) = (fun j : Fin n => g j.val) from funext (fun j => h j.val j.isLt)]
/-- a row of ints is known up to its size -/
theorem RUN.norm {G : mG} {l : Launch} {d : Nat} {M : mM} {pc : Nat} {ls : List (Option Value)} {st : List Value} {h : mH} {Q : Option Value → mH → Prop} {a n : Nat} {f f' : Nat → Int32} (hlo : h.1 ≤ a) (hg : hGet h a = some (.inr (.inl (n, f)))) (he : ∀ q, q < n → f q = f' q) (K : RUN G l d M pc ls st (hPut h a (.inr (.inl (n, f')))) Q) : RUN G l d M pc ls st h Q := by
  refine RUN.step (h2 := hPut h a (.inr (.inl (n, f')))) (pc2 := pc) (ls2 := ls) (st2 := st) (fun v h' b => ⟨b.1, fun p e R s m args below meth c H locs cells slots kC kS Q lsR C S r1 r2 r3 r4 K => ?_⟩) K
  refine b.2 p e R s m args below meth c H locs cells slots kC kS Q lsR C ⟨S.1.put rfl (fun q _ => rfl) ?_, S.2⟩ r1 r2 r3 r4 K
  rcases S.1.2.2 a _ hg with ⟨cA, h1, h2⟩ | ⟨h1, -⟩
  · exact Or.inl ⟨cA, h1, by rw [h2, vp_cell_i, vp_cell_i, arrV_same (fun j hj => by rw [he j hj])]⟩
  · exact absurd hlo (by omega)
theorem isM.cp0 {h h' : mH} {x : Nat} {fs : List Value} {m kp was pool tape pln pap rwd rw m' : Nat → Int} (k : isM h x fs m kp was pool tape pln pap rwd rw) (S : Same (fun b => b = mAd x 0) h h') (g : hGet h' (mAd x 0) = some (.inr (.inl (2928, fun q => J (m' q))))) : isM h' x fs m' kp was pool tape pln pap rwd rw := ⟨by rw [S.1]; exact k.lo, (S.2.2.2 _ x_mAd).trans k.gx, g, (S.2.2.2 _ (mAd_ne (by decide))).trans k.g1, (S.2.2.2 _ (mAd_ne (by decide))).trans k.g2, (S.2.2.2 _ (mAd_ne (by decide))).trans k.g3, (S.2.2.2 _ (mAd_ne (by decide))).trans k.g4, (S.2.2.2 _ (mAd_ne (by decide))).trans k.g5, (S.2.2.2 _ (mAd_ne (by decide))).trans k.g6, (S.2.2.2 _ (mAd_ne (by decide))).trans k.g7, (S.2.2.2 _ (mAd_ne (by decide))).trans k.g8⟩
theorem Same.blk0 {h h' : mH} {x : Nat} (S : Same (fun b => b = mAd x 0) h h') : Same (mBlk x) h h' := S.mono (fun b hb => hb ▸ mAd_blk (by decide))
theorem isM.cp1 {h h' : mH} {x : Nat} {fs : List Value} {m kp was pool tape pln pap rwd rw kp' : Nat → Int} (k : isM h x fs m kp was pool tape pln pap rwd rw) (S : Same (fun b => b = mAd x 1) h h') (g : hGet h' (mAd x 1) = some (.inr (.inl (2928, fun q => J (kp' q))))) : isM h' x fs m kp' was pool tape pln pap rwd rw := ⟨by rw [S.1]; exact k.lo, (S.2.2.2 _ x_mAd).trans k.gx, (S.2.2.2 _ (mAd_ne (by decide))).trans k.g0, g, (S.2.2.2 _ (mAd_ne (by decide))).trans k.g2, (S.2.2.2 _ (mAd_ne (by decide))).trans k.g3, (S.2.2.2 _ (mAd_ne (by decide))).trans k.g4, (S.2.2.2 _ (mAd_ne (by decide))).trans k.g5, (S.2.2.2 _ (mAd_ne (by decide))).trans k.g6, (S.2.2.2 _ (mAd_ne (by decide))).trans k.g7, (S.2.2.2 _ (mAd_ne (by decide))).trans k.g8⟩
theorem Same.blk1 {h h' : mH} {x : Nat} (S : Same (fun b => b = mAd x 1) h h') : Same (mBlk x) h h' := S.mono (fun b hb => hb ▸ mAd_blk (by decide))
theorem isM.cp2 {h h' : mH} {x : Nat} {fs : List Value} {m kp was pool tape pln pap rwd rw was' : Nat → Int} (k : isM h x fs m kp was pool tape pln pap rwd rw) (S : Same (fun b => b = mAd x 2) h h') (g : hGet h' (mAd x 2) = some (.inr (.inl (2928, fun q => J (was' q))))) : isM h' x fs m kp was' pool tape pln pap rwd rw := ⟨by rw [S.1]; exact k.lo, (S.2.2.2 _ x_mAd).trans k.gx, (S.2.2.2 _ (mAd_ne (by decide))).trans k.g0, (S.2.2.2 _ (mAd_ne (by decide))).trans k.g1, g, (S.2.2.2 _ (mAd_ne (by decide))).trans k.g3, (S.2.2.2 _ (mAd_ne (by decide))).trans k.g4, (S.2.2.2 _ (mAd_ne (by decide))).trans k.g5, (S.2.2.2 _ (mAd_ne (by decide))).trans k.g6, (S.2.2.2 _ (mAd_ne (by decide))).trans k.g7, (S.2.2.2 _ (mAd_ne (by decide))).trans k.g8⟩
theorem Same.blk2 {h h' : mH} {x : Nat} (S : Same (fun b => b = mAd x 2) h h') : Same (mBlk x) h h' := S.mono (fun b hb => hb ▸ mAd_blk (by decide))
theorem cpF_lt {f g : Nat → Int} {q : Nat} (h : q < 2928) : cpF f g 2928 q = f q := if_pos h
theorem cpF_cp {f g k : Nat → Int} {q : Nat} (h : q < 2928) : cpF (cpF f g 2928) k 2928 q = f q := by
  unfold cpF; rw [if_pos h, if_pos h]
def closeN (m : Nat → Int) (t : Int) : Int := if 0 ≤ t ∧ t ≤ m 1 - 1 then -3 else -1
abbrev closeDo (m : Nat → Int) (t : Int) : Prop := (0 ≤ t ∧ t ≤ m 1 - 1) ∧ m (258 + 14 * t).toNat = 0
def shutN (m : Nat → Int) (s : Int) : Int := if 0 ≤ s ∧ s ≤ m 0 - 1 then -3 else -1
set_option maxHeartbeats 4000000 in
set_option maxRecDepth 100000 in
theorem m_close {G : mG} {l : Launch} {x s : Nat} {f4 f6 f8 f9 f10 f11 f12 f13 f14 f16 f18 : Int} {kp was pool tape pln pap rwd rw : Nat → Int} (hPo : ∀ q, InR (pool q)) {m m' : Nat → Int} {h : mH} (hB : isM h x (mFs x f4 f6 f8 f9 f10 f11 f12 f13 f14 f16 f18 s) m kp was pool tape pln pap rwd rw) (hok : mOk m) {t : Int} (ht : InR t) (hR : closeDo m t → closesR pool (-1) 91 (updI m 5 0) t.toNat m') : RUNM G l 400 mX11_close [.ref x, .int (J t)] h (fun v h' => (¬ closeDo m t ∧ v = some (.int (J (closeN m t))) ∧ h' = h) ∨ (closeDo m t ∧ v = some (.int (J (m' 5))) ∧ isM h' x (mFs x f4 f6 f8 f9 f10 f11 f12 f13 (-1) f16 f18 s) m' kp was pool tape pln pap rwd rw ∧ Same (mBlk x) h h')) := by
  obtain ⟨hM, k0, k1, k2, k3, k4, k5, k7⟩ := id hok
  have hB0 := hB
  dsimp only [mFs] at hB
  refine RUNM.of (by decide +kernel) (Nat.le_of_ble_eq_true rfl) ?_
  refine r_aload_n (pc := 0) dX11_close_0 rfl (by first | rfl | exact isRefV_rf _) ?_
  refine r_iload_n (pc := 1) dX11_close_1 rfl ?_
  refine r_callV1 (pc := 2) dX11_close_2 qX11_isThing kX11_238 vX11_isThing (by exact isM.gx (by assumption)) rfl rfl (Nat.le_of_ble_eq_true rfl) ((m_isThing 0 hB0 ht ⟨by omega, by omega⟩).deeper (by omega)) (fun v_2 h_2 q_2 => ?_)
  obtain ⟨rfl, rfl⟩ := q_2
  refine rj_if_ne (pc := 5) (tgt := 10) dX11_close_5 (by decide) (by first | assumption | exact b01_r | exact bz_r | omega | (constructor <;> omega) | exact hM _ | exact hPo _ | exact hTa _ | exact hRo _) (fun c_5 => ?_) (fun c_5 => ?_)
  · try simp only [b01_0, bz_0, Classical.not_not] at c_5
    refine r_aload_n (pc := 10) dX11_close_10 rfl (by first | rfl | exact isRefV_rf _) ?_
    refine r_iload_n (pc := 11) dX11_close_11 rfl ?_
    refine r_callV1 (pc := 12) dX11_close_12 qX11_isHeld kX11_119 vX11_isHeld (by exact isM.gx (by assumption)) rfl rfl (Nat.le_of_ble_eq_true rfl) ((m_isHeld 0 hB0 hM (by omega) (by omega)).deeper (by omega)) (fun v_12 h_12 q_12 => ?_)
    obtain ⟨rfl, rfl⟩ := q_12
    refine rj_if_ne (pc := 15) (tgt := 21) dX11_close_15 (by decide) (by first | assumption | exact b01_r | exact bz_r | omega | (constructor <;> omega) | exact hM _ | exact hPo _ | exact hTa _ | exact hRo _) (fun c_15 => ?_) (fun c_15 => ?_)
    · try simp only [b01_0, bz_0, Classical.not_not] at c_15
      refine r_aload_n (pc := 21) dX11_close_21 rfl (by first | rfl | exact isRefV_rf _) ?_
      refine rj_iconst (pc := 22) dX11_close_22 ?_
      refine rm_putf (pc := 23) dX11_close_23 fX11_133 (by assumption) rfl rfl (Nat.le_of_ble_eq_true rfl) (fun h_23 hB_23 hS_23 => ?_)
      dsimp only [List.set, mFs] at hB_23
      refine r_aload_n (pc := 26) dX11_close_26 rfl (by first | rfl | exact isRefV_rf _) ?_
      refine rm_getf (pc := 27) dX11_close_27 fX11_11 (by assumption) rfl ?_
      refine rj_iconst (pc := 30) dX11_close_30 ?_
      refine rj_iconst (pc := 31) dX11_close_31 ?_
      first | refine rm_iast0 (pc := 32) (j := 5) dX11_close_32 (by assumption) (by first | assumption | exact b01_r | exact bz_r | omega | (constructor <;> omega) | exact hM _ | exact hPo _ | exact hTa _ | exact hRo _) (by first | assumption | exact b01_r | exact bz_r | omega | (constructor <;> omega) | exact hM _ | exact hPo _ | exact hTa _ | exact hRo _) (by first | assumption | exact b01_r | exact bz_r | omega | (constructor <;> omega) | exact hM _ | exact hPo _ | exact hTa _ | exact hRo _) (by omega) (fun h_32 hB_32 hS_32 => ?_)
      refine r_aload_n (pc := 33) dX11_close_33 rfl (by first | rfl | exact isRefV_rf _) ?_
      refine r_iload_n (pc := 34) dX11_close_34 rfl ?_
      refine r_callV1 (pc := 35) dX11_close_35 qX11_closes kX11_153 vX11_closes (by exact isM.gx (by assumption)) rfl rfl (Nat.le_of_ble_eq_true rfl) (by have y := m_closes (G := G) (l := l) hPo (by decide) 91 _ m' t.toNat _ hB_32 (hR ⟨c_5, c_15⟩); rw [show ((t.toNat : Nat) : Int) = t by omega] at y; exact y.deeper (by omega)) (fun v_35 h_35 q_35 => ?_)
      obtain ⟨rfl, hB_35, S_35⟩ := q_35
      refine r_aload_n (pc := 38) dX11_close_38 rfl (by first | rfl | exact isRefV_rf _) ?_
      refine rm_getf (pc := 39) dX11_close_39 fX11_11 (by assumption) rfl ?_
      refine rj_iconst (pc := 42) dX11_close_42 ?_
      refine rj_iald (pc := 43) (j := 5) dX11_close_43 (by first | exact isM.g0 (by assumption) | exact isM.g3 (by assumption) | exact isM.g4 (by assumption) | exact isM.g8 (by assumption) | exact isM.g7 (by assumption) | exact isM.g6 (by assumption) | exact isM.g5 (by assumption) | exact isM.g1 (by assumption) | exact isM.g2 (by assumption)) (by first | assumption | exact b01_r | exact bz_r | omega | (constructor <;> omega) | exact hM _ | exact hPo _ | exact hTa _ | exact hRo _) (by first | assumption | exact b01_r | exact bz_r | omega | (constructor <;> omega) | exact hM _ | exact hPo _ | exact hTa _ | exact hRo _) (by first | assumption | exact b01_r | exact bz_r | omega | (constructor <;> omega) | exact hM _ | exact hPo _ | exact hTa _ | exact hRo _) (by omega) ?_
      refine r_ireturn (pc := 44) .int dX11_close_44 rfl (by first | rfl | assumption) ?_
      exact Or.inr ⟨⟨c_5, c_15⟩, rfl, hB_35, (hS_23.trans hS_32).trans S_35⟩
    · try simp only [b01_0, bz_0, Classical.not_not] at c_15
      refine rj_bipush (pc := 18) dX11_close_18 (by decide +kernel) ?_
      refine r_ireturn (pc := 20) .int dX11_close_20 rfl (by first | rfl | assumption) ?_
      exact Or.inl ⟨fun g => c_15 g.2, by rw [show closeN m t = -3 from if_pos c_5], rfl⟩
  · try simp only [b01_0, bz_0, Classical.not_not] at c_5
    refine rj_iconst (pc := 8) dX11_close_8 ?_
    refine r_ireturn (pc := 9) .int dX11_close_9 rfl (by first | rfl | assumption) ?_
    exact Or.inl ⟨fun g => c_5 g.1, by rw [show closeN m t = -1 from if_neg c_5], rfl⟩
set_option maxHeartbeats 4000000 in
set_option maxRecDepth 100000 in
theorem m_shut {G : mG} {l : Launch} {x s : Nat} {f4 f6 f8 f9 f10 f11 f12 f13 f14 f16 f18 : Int} {kp was pool tape pln pap rwd rw : Nat → Int} (hPo : ∀ q, InR (pool q)) {m m' : Nat → Int} {h : mH} (hB : isM h x (mFs x f4 f6 f8 f9 f10 f11 f12 f13 f14 f16 f18 s) m kp was pool tape pln pap rwd rw) (hok : mOk m) {t : Int} (ht : InR t) (hR : openP m t → shutsR pool (-1) 61 (updI m 5 0) t m') : RUNM G l 400 mX11_shut [.ref x, .int (J t)] h (fun v h' => (¬ openP m t ∧ v = some (.int (J (shutN m t))) ∧ h' = h) ∨ (openP m t ∧ v = some (.int (J (m' 5))) ∧ isM h' x (mFs x f4 f6 f8 f9 f10 f11 f12 f13 (-1) f16 f18 s) m' kp was pool tape pln pap rwd rw ∧ Same (mBlk x) h h')) := by
  obtain ⟨hM, k0, k1, k2, k3, k4, k5, k7⟩ := id hok
  have hB0 := hB
  dsimp only [mFs] at hB
  refine RUNM.of (by decide +kernel) (Nat.le_of_ble_eq_true rfl) ?_
  refine r_aload_n (pc := 0) dX11_shut_0 rfl (by first | rfl | exact isRefV_rf _) ?_
  refine r_iload_n (pc := 1) dX11_shut_1 rfl ?_
  refine r_callV1 (pc := 2) dX11_shut_2 qX11_isScope kX11_50 vX11_isScope (by exact isM.gx (by assumption)) rfl rfl (Nat.le_of_ble_eq_true rfl) ((m_isScope 0 hB0 ht ⟨by omega, by omega⟩).deeper (by omega)) (fun v_2 h_2 q_2 => ?_)
  obtain ⟨rfl, rfl⟩ := q_2
  refine rj_if_ne (pc := 5) (tgt := 10) dX11_shut_5 (by decide) (by first | assumption | exact b01_r | exact bz_r | omega | (constructor <;> omega) | exact hM _ | exact hPo _ | exact hTa _ | exact hRo _) (fun c_5 => ?_) (fun c_5 => ?_)
  · try simp only [b01_0, bz_0, Classical.not_not] at c_5
    refine r_aload_n (pc := 10) dX11_shut_10 rfl (by first | rfl | exact isRefV_rf _) ?_
    refine r_iload_n (pc := 11) dX11_shut_11 rfl ?_
    refine r_callV1 (pc := 12) dX11_shut_12 qX11_isOpen kX11_146 vX11_isOpen (by exact isM.gx (by assumption)) rfl rfl (Nat.le_of_ble_eq_true rfl) ((m_isOpen 0 hB0 hM k0 ht).deeper (by omega)) (fun v_12 h_12 q_12 => ?_)
    obtain ⟨rfl, rfl⟩ := q_12
    refine rj_if_ne (pc := 15) (tgt := 21) dX11_shut_15 (by decide) (by first | assumption | exact b01_r | exact bz_r | omega | (constructor <;> omega) | exact hM _ | exact hPo _ | exact hTa _ | exact hRo _) (fun c_15 => ?_) (fun c_15 => ?_)
    · try simp only [b01_0, bz_0, Classical.not_not] at c_15
      refine r_aload_n (pc := 21) dX11_shut_21 rfl (by first | rfl | exact isRefV_rf _) ?_
      refine rj_iconst (pc := 22) dX11_shut_22 ?_
      refine rm_putf (pc := 23) dX11_shut_23 fX11_133 (by assumption) rfl rfl (Nat.le_of_ble_eq_true rfl) (fun h_23 hB_23 hS_23 => ?_)
      dsimp only [List.set, mFs] at hB_23
      refine r_aload_n (pc := 26) dX11_shut_26 rfl (by first | rfl | exact isRefV_rf _) ?_
      refine rm_getf (pc := 27) dX11_shut_27 fX11_11 (by assumption) rfl ?_
      refine rj_iconst (pc := 30) dX11_shut_30 ?_
      refine rj_iconst (pc := 31) dX11_shut_31 ?_
      first | refine rm_iast0 (pc := 32) (j := 5) dX11_shut_32 (by assumption) (by first | assumption | exact b01_r | exact bz_r | omega | (constructor <;> omega) | exact hM _ | exact hPo _ | exact hTa _ | exact hRo _) (by first | assumption | exact b01_r | exact bz_r | omega | (constructor <;> omega) | exact hM _ | exact hPo _ | exact hTa _ | exact hRo _) (by first | assumption | exact b01_r | exact bz_r | omega | (constructor <;> omega) | exact hM _ | exact hPo _ | exact hTa _ | exact hRo _) (by omega) (fun h_32 hB_32 hS_32 => ?_)
      refine r_aload_n (pc := 33) dX11_shut_33 rfl (by first | rfl | exact isRefV_rf _) ?_
      refine r_iload_n (pc := 34) dX11_shut_34 rfl ?_
      refine r_callV1 (pc := 35) dX11_shut_35 qX11_shuts kX11_157 vX11_shuts (by exact isM.gx (by assumption)) rfl rfl (Nat.le_of_ble_eq_true rfl) (by have y := m_shuts (G := G) (l := l) hPo (by decide) 61 _ m' t _ hB_32 (hR c_15); exact y.deeper (by omega)) (fun v_35 h_35 q_35 => ?_)
      obtain ⟨rfl, hB_35, S_35⟩ := q_35
      refine r_aload_n (pc := 38) dX11_shut_38 rfl (by first | rfl | exact isRefV_rf _) ?_
      refine rm_getf (pc := 39) dX11_shut_39 fX11_11 (by assumption) rfl ?_
      refine rj_iconst (pc := 42) dX11_shut_42 ?_
      refine rj_iald (pc := 43) (j := 5) dX11_shut_43 (by first | exact isM.g0 (by assumption) | exact isM.g3 (by assumption) | exact isM.g4 (by assumption) | exact isM.g8 (by assumption) | exact isM.g7 (by assumption) | exact isM.g6 (by assumption) | exact isM.g5 (by assumption) | exact isM.g1 (by assumption) | exact isM.g2 (by assumption)) (by first | assumption | exact b01_r | exact bz_r | omega | (constructor <;> omega) | exact hM _ | exact hPo _ | exact hTa _ | exact hRo _) (by first | assumption | exact b01_r | exact bz_r | omega | (constructor <;> omega) | exact hM _ | exact hPo _ | exact hTa _ | exact hRo _) (by first | assumption | exact b01_r | exact bz_r | omega | (constructor <;> omega) | exact hM _ | exact hPo _ | exact hTa _ | exact hRo _) (by omega) ?_
      refine r_ireturn (pc := 44) .int dX11_shut_44 rfl (by first | rfl | assumption) ?_
      exact Or.inr ⟨c_15, rfl, hB_35, (hS_23.trans hS_32).trans S_35⟩
    · try simp only [b01_0, bz_0, Classical.not_not] at c_15
      refine rj_bipush (pc := 18) dX11_shut_18 (by decide +kernel) ?_
      refine r_ireturn (pc := 20) .int dX11_shut_20 rfl (by first | rfl | assumption) ?_
      exact Or.inl ⟨c_15, by rw [show shutN m t = -3 from if_pos c_5], rfl⟩
  · try simp only [b01_0, bz_0, Classical.not_not] at c_5
    refine rj_iconst (pc := 8) dX11_shut_8 ?_
    refine r_ireturn (pc := 9) .int dX11_shut_9 rfl (by first | rfl | assumption) ?_
    exact Or.inl ⟨fun g => c_5 ⟨g.1, g.2.1⟩, by rw [show shutN m t = -1 from if_neg c_5], rfl⟩
def wouldV (m w : Nat → Int) (k : Int) : Int := if k = 0 then m 5 else if k = 1 then (if m 5 = 0 then 0 else m 2688) else if k = 2 then (if m 5 = 0 then -1 else m 2689) else if k = 3 then m 2 - w 2 else if k = 4 then m 1 - w 1 else cnt (heldB m) (m 1).toNat
set_option maxHeartbeats 4000000 in
set_option maxRecDepth 100000 in
theorem m_wouldNow {G : mG} {l : Launch} (d : Nat) {h : mH} {x s : Nat} {f4 f6 f8 f9 f10 f11 f12 f13 f14 f16 f18 : Int} {m kp was pool tape pln pap rwd rw : Nat → Int}(hB : isM h x (mFs x f4 f6 f8 f9 f10 f11 f12 f13 f14 f16 f18 s) m kp was pool tape pln pap rwd rw) (hok : mOk m) {k : Int} (hk : InR k) : RUNM G l (d + 3) mX11_wouldNow [.ref x, .int (J k)] h (fun v h' => v = some (.int (J (wouldV m was k))) ∧ h' = h) := by
  obtain ⟨hM, k0, k1, k2, k3, k4, k5, k7⟩ := id hok
  have hB0 := hB
  dsimp only [mFs] at hB
  refine RUNM.of (by decide +kernel) (Nat.le_of_ble_eq_true rfl) ?_
  have r5 := hM 5
  refine r_iload_n (pc := 0) dX11_wouldNow_0 rfl ?_
  refine rj_tsw (pc := 1) dX11_wouldNow_1 (by first | assumption | exact b01_r | exact bz_r | omega | (constructor <;> omega) | exact hM _ | exact hPo _ | exact hTa _ | exact hRo _) (by decide) (by decide) (by decide) (fun off_1 tgt_1 ho_1 ht_1 => ?_)
  by_cases e_1_0 : k = 0
  · rw [e_1_0] at ho_1
    obtain rfl : off_1 = 35 := ho_1.symm.trans (by decide)
    obtain rfl : tgt_1 = 36 := by omega
    refine r_aload_n (pc := 36) dX11_wouldNow_36 rfl (by first | rfl | exact isRefV_rf _) ?_
    refine rm_getf (pc := 37) dX11_wouldNow_37 fX11_11 (by assumption) rfl ?_
    refine rj_iconst (pc := 40) dX11_wouldNow_40 ?_
    refine rj_iald (pc := 41) (j := 5) dX11_wouldNow_41 (by first | exact isM.g0 (by assumption) | exact isM.g3 (by assumption) | exact isM.g4 (by assumption) | exact isM.g8 (by assumption) | exact isM.g7 (by assumption) | exact isM.g6 (by assumption) | exact isM.g5 (by assumption) | exact isM.g1 (by assumption) | exact isM.g2 (by assumption)) (by first | assumption | exact b01_r | exact bz_r | omega | (constructor <;> omega) | exact hM _ | exact hPo _ | exact hTa _ | exact hRo _) (by first | assumption | exact b01_r | exact bz_r | omega | (constructor <;> omega) | exact hM _ | exact hPo _ | exact hTa _ | exact hRo _) (by first | assumption | exact b01_r | exact bz_r | omega | (constructor <;> omega) | exact hM _ | exact hPo _ | exact hTa _ | exact hRo _) (by omega) ?_
    refine r_ireturn (pc := 42) .int dX11_wouldNow_42 rfl (by first | rfl | assumption) ?_
    exact ⟨by unfold wouldV; simp (config := {decide := true}) only [*, if_true, if_false, ite_true, ite_false], rfl⟩
  by_cases e_1_1 : k = 1
  · rw [e_1_1] at ho_1
    obtain rfl : off_1 = 42 := ho_1.symm.trans (by decide)
    obtain rfl : tgt_1 = 43 := by omega
    refine r_aload_n (pc := 43) dX11_wouldNow_43 rfl (by first | rfl | exact isRefV_rf _) ?_
    refine rm_getf (pc := 44) dX11_wouldNow_44 fX11_11 (by assumption) rfl ?_
    refine rj_iconst (pc := 47) dX11_wouldNow_47 ?_
    refine rj_iald (pc := 48) (j := 5) dX11_wouldNow_48 (by first | exact isM.g0 (by assumption) | exact isM.g3 (by assumption) | exact isM.g4 (by assumption) | exact isM.g8 (by assumption) | exact isM.g7 (by assumption) | exact isM.g6 (by assumption) | exact isM.g5 (by assumption) | exact isM.g1 (by assumption) | exact isM.g2 (by assumption)) (by first | assumption | exact b01_r | exact bz_r | omega | (constructor <;> omega) | exact hM _ | exact hPo _ | exact hTa _ | exact hRo _) (by first | assumption | exact b01_r | exact bz_r | omega | (constructor <;> omega) | exact hM _ | exact hPo _ | exact hTa _ | exact hRo _) (by first | assumption | exact b01_r | exact bz_r | omega | (constructor <;> omega) | exact hM _ | exact hPo _ | exact hTa _ | exact hRo _) (by omega) ?_
    refine rj_if_ne (pc := 49) (tgt := 56) dX11_wouldNow_49 (by decide) (by first | assumption | exact b01_r | exact bz_r | omega | (constructor <;> omega) | exact hM _ | exact hPo _ | exact hTa _ | exact hRo _) (fun c_49 => ?_) (fun c_49 => ?_)
    · try simp only [b01_0, bz_0, Classical.not_not] at c_49
      refine r_aload_n (pc := 56) dX11_wouldNow_56 rfl (by first | rfl | exact isRefV_rf _) ?_
      refine rm_getf (pc := 57) dX11_wouldNow_57 fX11_11 (by assumption) rfl ?_
      refine rj_sipush (pc := 60) dX11_wouldNow_60 (by decide +kernel) ?_
      refine rj_iald (pc := 63) (j := 2688) dX11_wouldNow_63 (by first | exact isM.g0 (by assumption) | exact isM.g3 (by assumption) | exact isM.g4 (by assumption) | exact isM.g8 (by assumption) | exact isM.g7 (by assumption) | exact isM.g6 (by assumption) | exact isM.g5 (by assumption) | exact isM.g1 (by assumption) | exact isM.g2 (by assumption)) (by first | assumption | exact b01_r | exact bz_r | omega | (constructor <;> omega) | exact hM _ | exact hPo _ | exact hTa _ | exact hRo _) (by first | assumption | exact b01_r | exact bz_r | omega | (constructor <;> omega) | exact hM _ | exact hPo _ | exact hTa _ | exact hRo _) (by first | assumption | exact b01_r | exact bz_r | omega | (constructor <;> omega) | exact hM _ | exact hPo _ | exact hTa _ | exact hRo _) (by omega) ?_
      refine r_ireturn (pc := 64) .int dX11_wouldNow_64 rfl (by first | rfl | assumption) ?_
      exact ⟨by unfold wouldV; simp (config := {decide := true}) only [*, if_true, if_false, ite_true, ite_false], rfl⟩
    · try simp only [b01_0, bz_0, Classical.not_not] at c_49
      refine rj_iconst (pc := 52) dX11_wouldNow_52 ?_
      refine r_goto (pc := 53) (tgt := 64) dX11_wouldNow_53 (by decide) ?_
      refine r_ireturn (pc := 64) .int dX11_wouldNow_64 rfl (by first | rfl | assumption) ?_
      exact ⟨by unfold wouldV; simp (config := {decide := true}) only [*, if_true, if_false, ite_true, ite_false], rfl⟩
  by_cases e_1_2 : k = 2
  · rw [e_1_2] at ho_1
    obtain rfl : off_1 = 64 := ho_1.symm.trans (by decide)
    obtain rfl : tgt_1 = 65 := by omega
    refine r_aload_n (pc := 65) dX11_wouldNow_65 rfl (by first | rfl | exact isRefV_rf _) ?_
    refine rm_getf (pc := 66) dX11_wouldNow_66 fX11_11 (by assumption) rfl ?_
    refine rj_iconst (pc := 69) dX11_wouldNow_69 ?_
    refine rj_iald (pc := 70) (j := 5) dX11_wouldNow_70 (by first | exact isM.g0 (by assumption) | exact isM.g3 (by assumption) | exact isM.g4 (by assumption) | exact isM.g8 (by assumption) | exact isM.g7 (by assumption) | exact isM.g6 (by assumption) | exact isM.g5 (by assumption) | exact isM.g1 (by assumption) | exact isM.g2 (by assumption)) (by first | assumption | exact b01_r | exact bz_r | omega | (constructor <;> omega) | exact hM _ | exact hPo _ | exact hTa _ | exact hRo _) (by first | assumption | exact b01_r | exact bz_r | omega | (constructor <;> omega) | exact hM _ | exact hPo _ | exact hTa _ | exact hRo _) (by first | assumption | exact b01_r | exact bz_r | omega | (constructor <;> omega) | exact hM _ | exact hPo _ | exact hTa _ | exact hRo _) (by omega) ?_
    refine rj_if_ne (pc := 71) (tgt := 78) dX11_wouldNow_71 (by decide) (by first | assumption | exact b01_r | exact bz_r | omega | (constructor <;> omega) | exact hM _ | exact hPo _ | exact hTa _ | exact hRo _) (fun c_71 => ?_) (fun c_71 => ?_)
    · try simp only [b01_0, bz_0, Classical.not_not] at c_71
      refine r_aload_n (pc := 78) dX11_wouldNow_78 rfl (by first | rfl | exact isRefV_rf _) ?_
      refine rm_getf (pc := 79) dX11_wouldNow_79 fX11_11 (by assumption) rfl ?_
      refine rj_sipush (pc := 82) dX11_wouldNow_82 (by decide +kernel) ?_
      refine rj_iald (pc := 85) (j := 2689) dX11_wouldNow_85 (by first | exact isM.g0 (by assumption) | exact isM.g3 (by assumption) | exact isM.g4 (by assumption) | exact isM.g8 (by assumption) | exact isM.g7 (by assumption) | exact isM.g6 (by assumption) | exact isM.g5 (by assumption) | exact isM.g1 (by assumption) | exact isM.g2 (by assumption)) (by first | assumption | exact b01_r | exact bz_r | omega | (constructor <;> omega) | exact hM _ | exact hPo _ | exact hTa _ | exact hRo _) (by first | assumption | exact b01_r | exact bz_r | omega | (constructor <;> omega) | exact hM _ | exact hPo _ | exact hTa _ | exact hRo _) (by first | assumption | exact b01_r | exact bz_r | omega | (constructor <;> omega) | exact hM _ | exact hPo _ | exact hTa _ | exact hRo _) (by omega) ?_
      refine r_ireturn (pc := 86) .int dX11_wouldNow_86 rfl (by first | rfl | assumption) ?_
      exact ⟨by unfold wouldV; simp (config := {decide := true}) only [*, if_true, if_false, ite_true, ite_false], rfl⟩
    · try simp only [b01_0, bz_0, Classical.not_not] at c_71
      refine rj_iconst (pc := 74) dX11_wouldNow_74 ?_
      refine r_goto (pc := 75) (tgt := 86) dX11_wouldNow_75 (by decide) ?_
      refine r_ireturn (pc := 86) .int dX11_wouldNow_86 rfl (by first | rfl | assumption) ?_
      exact ⟨by unfold wouldV; simp (config := {decide := true}) only [*, if_true, if_false, ite_true, ite_false], rfl⟩
  by_cases e_1_3 : k = 3
  · rw [e_1_3] at ho_1
    obtain rfl : off_1 = 86 := ho_1.symm.trans (by decide)
    obtain rfl : tgt_1 = 87 := by omega
    refine r_aload_n (pc := 87) dX11_wouldNow_87 rfl (by first | rfl | exact isRefV_rf _) ?_
    refine rm_getf (pc := 88) dX11_wouldNow_88 fX11_11 (by assumption) rfl ?_
    refine rj_iconst (pc := 91) dX11_wouldNow_91 ?_
    refine rj_iald (pc := 92) (j := 2) dX11_wouldNow_92 (by first | exact isM.g0 (by assumption) | exact isM.g3 (by assumption) | exact isM.g4 (by assumption) | exact isM.g8 (by assumption) | exact isM.g7 (by assumption) | exact isM.g6 (by assumption) | exact isM.g5 (by assumption) | exact isM.g1 (by assumption) | exact isM.g2 (by assumption)) (by first | assumption | exact b01_r | exact bz_r | omega | (constructor <;> omega) | exact hM _ | exact hPo _ | exact hTa _ | exact hRo _) (by first | assumption | exact b01_r | exact bz_r | omega | (constructor <;> omega) | exact hM _ | exact hPo _ | exact hTa _ | exact hRo _) (by first | assumption | exact b01_r | exact bz_r | omega | (constructor <;> omega) | exact hM _ | exact hPo _ | exact hTa _ | exact hRo _) (by omega) ?_
    refine r_aload_n (pc := 93) dX11_wouldNow_93 rfl (by first | rfl | exact isRefV_rf _) ?_
    refine rm_getf (pc := 94) dX11_wouldNow_94 fX11_18 (by assumption) rfl ?_
    refine rj_iconst (pc := 97) dX11_wouldNow_97 ?_
    refine rj_iald (pc := 98) (j := 2) dX11_wouldNow_98 (by first | exact isM.g0 (by assumption) | exact isM.g3 (by assumption) | exact isM.g4 (by assumption) | exact isM.g8 (by assumption) | exact isM.g7 (by assumption) | exact isM.g6 (by assumption) | exact isM.g5 (by assumption) | exact isM.g1 (by assumption) | exact isM.g2 (by assumption)) (by first | assumption | exact b01_r | exact bz_r | omega | (constructor <;> omega) | exact hM _ | exact hPo _ | exact hTa _ | exact hRo _) (by first | assumption | exact b01_r | exact bz_r | omega | (constructor <;> omega) | exact hM _ | exact hPo _ | exact hTa _ | exact hRo _) (by first | assumption | exact b01_r | exact bz_r | omega | (constructor <;> omega) | exact hM _ | exact hPo _ | exact hTa _ | exact hRo _) (by omega) ?_
    refine rj_isub (pc := 99) dX11_wouldNow_99 ?_
    refine r_ireturn (pc := 100) .int dX11_wouldNow_100 rfl (by first | rfl | assumption) ?_
    exact ⟨by unfold wouldV; simp (config := {decide := true}) only [*, if_true, if_false, ite_true, ite_false], rfl⟩
  by_cases e_1_4 : k = 4
  · rw [e_1_4] at ho_1
    obtain rfl : off_1 = 100 := ho_1.symm.trans (by decide)
    obtain rfl : tgt_1 = 101 := by omega
    refine r_aload_n (pc := 101) dX11_wouldNow_101 rfl (by first | rfl | exact isRefV_rf _) ?_
    refine rm_getf (pc := 102) dX11_wouldNow_102 fX11_11 (by assumption) rfl ?_
    refine rj_iconst (pc := 105) dX11_wouldNow_105 ?_
    refine rj_iald (pc := 106) (j := 1) dX11_wouldNow_106 (by first | exact isM.g0 (by assumption) | exact isM.g3 (by assumption) | exact isM.g4 (by assumption) | exact isM.g8 (by assumption) | exact isM.g7 (by assumption) | exact isM.g6 (by assumption) | exact isM.g5 (by assumption) | exact isM.g1 (by assumption) | exact isM.g2 (by assumption)) (by first | assumption | exact b01_r | exact bz_r | omega | (constructor <;> omega) | exact hM _ | exact hPo _ | exact hTa _ | exact hRo _) (by first | assumption | exact b01_r | exact bz_r | omega | (constructor <;> omega) | exact hM _ | exact hPo _ | exact hTa _ | exact hRo _) (by first | assumption | exact b01_r | exact bz_r | omega | (constructor <;> omega) | exact hM _ | exact hPo _ | exact hTa _ | exact hRo _) (by omega) ?_
    refine r_aload_n (pc := 107) dX11_wouldNow_107 rfl (by first | rfl | exact isRefV_rf _) ?_
    refine rm_getf (pc := 108) dX11_wouldNow_108 fX11_18 (by assumption) rfl ?_
    refine rj_iconst (pc := 111) dX11_wouldNow_111 ?_
    refine rj_iald (pc := 112) (j := 1) dX11_wouldNow_112 (by first | exact isM.g0 (by assumption) | exact isM.g3 (by assumption) | exact isM.g4 (by assumption) | exact isM.g8 (by assumption) | exact isM.g7 (by assumption) | exact isM.g6 (by assumption) | exact isM.g5 (by assumption) | exact isM.g1 (by assumption) | exact isM.g2 (by assumption)) (by first | assumption | exact b01_r | exact bz_r | omega | (constructor <;> omega) | exact hM _ | exact hPo _ | exact hTa _ | exact hRo _) (by first | assumption | exact b01_r | exact bz_r | omega | (constructor <;> omega) | exact hM _ | exact hPo _ | exact hTa _ | exact hRo _) (by first | assumption | exact b01_r | exact bz_r | omega | (constructor <;> omega) | exact hM _ | exact hPo _ | exact hTa _ | exact hRo _) (by omega) ?_
    refine rj_isub (pc := 113) dX11_wouldNow_113 ?_
    refine r_ireturn (pc := 114) .int dX11_wouldNow_114 rfl (by first | rfl | assumption) ?_
    exact ⟨by unfold wouldV; simp (config := {decide := true}) only [*, if_true, if_false, ite_true, ite_false], rfl⟩
  have eo_1 : off_1 = 114 := by
    rw [← ho_1]
    unfold tswOff
    rw [if_pos (by omega)]
  obtain rfl : tgt_1 = 115 := by omega
  refine r_aload_n (pc := 115) dX11_wouldNow_115 rfl (by first | rfl | exact isRefV_rf _) ?_
  refine r_callV0 (pc := 116) dX11_wouldNow_116 qX11_held kX11_276 vX11_held (by exact isM.gx (by assumption)) rfl rfl (Nat.le_of_ble_eq_true rfl) (m_held d hB0 hM (N := (m 1).toNat) (by omega) (by omega)) (fun v_116 h_116 q_116 => ?_)
  obtain ⟨rfl, rfl⟩ := q_116
  refine r_ireturn (pc := 119) .int dX11_wouldNow_119 rfl (by first | rfl | assumption) ?_
  exact ⟨by unfold wouldV; simp (config := {decide := true}) only [*, if_true, if_false, ite_true, ite_false], rfl⟩
set_option maxHeartbeats 4000000 in
set_option maxRecDepth 100000 in
theorem m_would {G : mG} {l : Launch} {x s : Nat} {f4 f6 f8 f9 f10 f11 f12 f13 f14 f16 f18 : Int} {kp was pool tape pln pap rwd rw : Nat → Int} (hPo : ∀ q, InR (pool q)) {m m' : Nat → Int} {h : mH} (hB : isM h x (mFs x f4 f6 f8 f9 f10 f11 f12 f13 f14 f16 f18 s) m kp was pool tape pln pap rwd rw) (hok : mOk m) {t k : Int} (ht : InR t) (hk : InR k) (hR : openP m t → shutsR pool (-1) 61 (updI m 5 0) t m' ∧ mOk m') : RUNM G l 402 mX11_would [.ref x, .int (J t), .int (J k)] h (fun v h' => (¬ ((0 ≤ t ∧ t ≤ m 0 - 1) ∧ (0 ≤ k ∧ k ≤ 5)) ∧ v = some (.int (J (-1))) ∧ h' = h) ∨ (((0 ≤ t ∧ t ≤ m 0 - 1) ∧ (0 ≤ k ∧ k ≤ 5)) ∧ ¬ openP m t ∧ v = some (.int (J (-3))) ∧ h' = h) ∨ (((0 ≤ t ∧ t ≤ m 0 - 1) ∧ (0 ≤ k ∧ k ≤ 5)) ∧ openP m t ∧ v = some (.int (J (wouldV m' m k))) ∧ (∃ was', isM h' x (mFs x f4 f6 f8 f9 f10 f11 f12 f13 (-1) f16 f18 s) m kp was' pool tape pln pap rwd rw) ∧ Same (mBlk x) h h')) := by
  obtain ⟨hM, k0, k1, k2, k3, k4, k5, k7⟩ := id hok
  have hB0 := hB
  have ew : wouldV m' (cpF m was 2928) k = wouldV m' m k := by unfold wouldV cpF; simp
  dsimp only [mFs] at hB
  refine RUNM.of (by decide +kernel) (Nat.le_of_ble_eq_true rfl) ?_
  refine r_aload_n (pc := 0) dX11_would_0 rfl (by first | rfl | exact isRefV_rf _) ?_
  refine r_iload_n (pc := 1) dX11_would_1 rfl ?_
  refine r_callV1 (pc := 2) dX11_would_2 qX11_isScope kX11_50 vX11_isScope (by exact isM.gx (by assumption)) rfl rfl (Nat.le_of_ble_eq_true rfl) ((m_isScope 0 hB0 ht ⟨by omega, by omega⟩).deeper (by omega)) (fun v_2 h_2 q_2 => ?_)
  obtain ⟨rfl, rfl⟩ := q_2
  refine rj_if_eq (pc := 5) (tgt := 17) dX11_would_5 (by decide) (by first | assumption | exact b01_r | exact bz_r | omega | (constructor <;> omega) | exact hM _ | exact hPo _ | exact hTa _ | exact hRo _) (fun c_5 => ?_) (fun c_5 => ?_)
  · try simp only [b01_0, bz_0, Classical.not_not] at c_5
    refine rj_iconst (pc := 17) dX11_would_17 ?_
    refine r_ireturn (pc := 18) .int dX11_would_18 rfl (by first | rfl | assumption) ?_
    first | exact Or.inl ⟨fun g => c_5 g.1, rfl, rfl⟩ | exact Or.inl ⟨fun g => c_14 g.2, rfl, rfl⟩
  · try simp only [b01_0, bz_0, Classical.not_not] at c_5
    refine r_iload_n (pc := 8) dX11_would_8 rfl ?_
    refine rj_iconst (pc := 9) dX11_would_9 ?_
    refine rj_iconst (pc := 10) dX11_would_10 ?_
    refine r_callS3 (pc := 11) dX11_would_11 qX11_isIn kX11_46 sX11_isIn (Nat.le_of_ble_eq_true rfl) ((m_isIn 0 hk (by decide) (by decide)).deeper (by omega)) (fun v_11 h_11 q_11 => ?_)
    obtain ⟨rfl, rfl⟩ := q_11
    refine rj_if_ne (pc := 14) (tgt := 19) dX11_would_14 (by decide) (by first | assumption | exact b01_r | exact bz_r | omega | (constructor <;> omega) | exact hM _ | exact hPo _ | exact hTa _ | exact hRo _) (fun c_14 => ?_) (fun c_14 => ?_)
    · try simp only [b01_0, bz_0, Classical.not_not] at c_14
      refine r_aload_n (pc := 19) dX11_would_19 rfl (by first | rfl | exact isRefV_rf _) ?_
      refine r_iload_n (pc := 20) dX11_would_20 rfl ?_
      refine r_callV1 (pc := 21) dX11_would_21 qX11_isOpen kX11_146 vX11_isOpen (by exact isM.gx (by assumption)) rfl rfl (Nat.le_of_ble_eq_true rfl) ((m_isOpen 0 hB0 hM k0 ht).deeper (by omega)) (fun v_21 h_21 q_21 => ?_)
      obtain ⟨rfl, rfl⟩ := q_21
      refine rj_if_ne (pc := 24) (tgt := 30) dX11_would_24 (by decide) (by first | assumption | exact b01_r | exact bz_r | omega | (constructor <;> omega) | exact hM _ | exact hPo _ | exact hTa _ | exact hRo _) (fun c_24 => ?_) (fun c_24 => ?_)
      · try simp only [b01_0, bz_0, Classical.not_not] at c_24
        refine r_aload_n (pc := 30) dX11_would_30 rfl (by first | rfl | exact isRefV_rf _) ?_
        refine rm_getf (pc := 31) dX11_would_31 fX11_11 (by assumption) rfl ?_
        refine r_aload_n (pc := 34) dX11_would_34 rfl (by first | rfl | exact isRefV_rf _) ?_
        refine rm_getf (pc := 35) dX11_would_35 fX11_18 (by assumption) rfl ?_
        refine r_callS2 (pc := 38) dX11_would_38 qX11_copies kX11_279 sX11_copies (Nat.le_of_ble_eq_true rfl) ((m_copies 0 (mAd_ne (by decide)) hB.g0 hB.g2 (hB.loA 2)).deeper (Nat.zero_le _)) (fun v_38 h_38 q_38 => ?_)
        obtain ⟨rfl, G_38, S_38⟩ := q_38
        have hB_38 := hB0.cp2 S_38 G_38
        have T_38 := S_38.blk2
        refine r_aload_n (pc := 41) dX11_would_41 rfl (by first | rfl | exact isRefV_rf _) ?_
        refine r_iload_n (pc := 42) dX11_would_42 rfl ?_
        refine r_callV1 (pc := 43) dX11_would_43 qX11_shut kX11_283 vX11_shut (by exact isM.gx (by assumption)) rfl rfl (Nat.le_of_ble_eq_true rfl) ((m_shut (m' := m') hPo hB_38 hok ht (fun q => (hR q).1)).deeper (by omega)) (fun v_43 h_43 q_43 => ?_)
        obtain ⟨hn_43, -, -⟩ | ⟨-, rfl, hB_43, S_43⟩ := q_43
        · exact absurd c_24 hn_43
        refine r_pop (pc := 46) dX11_would_46 (by first | rfl | (cases ‹Option Nat› <;> rfl)) ?_
        refine r_aload_n (pc := 47) dX11_would_47 rfl (by first | rfl | exact isRefV_rf _) ?_
        refine r_iload_n (pc := 48) dX11_would_48 rfl ?_
        refine r_callV1 (pc := 49) dX11_would_49 qX11_wouldNow kX11_286 vX11_wouldNow (by exact isM.gx (by assumption)) rfl rfl (Nat.le_of_ble_eq_true rfl) ((m_wouldNow 0 hB_43 (hR c_24).2 hk).deeper (by omega)) (fun v_49 h_49 q_49 => ?_)
        obtain ⟨rfl, rfl⟩ := q_49
        refine r_istore_n (pc := 52) dX11_would_52 (Nat.le_of_ble_eq_true rfl) ?_
        dsimp only [lsSt, List.set, mLs, mEnt]
        refine r_aload_n (pc := 53) dX11_would_53 rfl (by first | rfl | exact isRefV_rf _) ?_
        refine rm_getf (pc := 54) dX11_would_54 fX11_18 (by assumption) rfl ?_
        refine r_aload_n (pc := 57) dX11_would_57 rfl (by first | rfl | exact isRefV_rf _) ?_
        refine rm_getf (pc := 58) dX11_would_58 fX11_11 (by assumption) rfl ?_
        refine r_callS2 (pc := 61) dX11_would_61 qX11_copies kX11_279 sX11_copies (Nat.le_of_ble_eq_true rfl) ((m_copies 0 (mAd_ne (by decide)) hB_43.g2 hB_43.g0 (hB_43.loA 0)).deeper (Nat.zero_le _)) (fun v_61 h_61 q_61 => ?_)
        obtain ⟨rfl, G_61, S_61⟩ := q_61
        have hB_61 := hB_43.cp0 S_61 G_61
        have T_61 := S_61.blk0
        refine RUN.norm (hB_61.loA 0) G_61 (f' := fun q => J (m q)) (fun q hq => by rw [cpF_cp hq]) ?_
        refine r_iload_n (pc := 64) dX11_would_64 rfl ?_
        refine r_ireturn (pc := 65) .int dX11_would_65 rfl (by first | rfl | assumption) ?_
        rw [ew]
        exact Or.inr (Or.inr ⟨⟨c_5, c_14⟩, c_24, rfl, ⟨_, hB_61.put0 m⟩, ((T_38.trans S_43).trans T_61).trans (Same.refl.put (mAd_blk (by decide)))⟩)
      · try simp only [b01_0, bz_0, Classical.not_not] at c_24
        refine rj_bipush (pc := 27) dX11_would_27 (by decide +kernel) ?_
        refine r_ireturn (pc := 29) .int dX11_would_29 rfl (by first | rfl | assumption) ?_
        exact Or.inr (Or.inl ⟨⟨c_5, c_14⟩, c_24, rfl, rfl⟩)
    · try simp only [b01_0, bz_0, Classical.not_not] at c_14
      refine rj_iconst (pc := 17) dX11_would_17 ?_
      refine r_ireturn (pc := 18) .int dX11_would_18 rfl (by first | rfl | assumption) ?_
      first | exact Or.inl ⟨fun g => c_5 g.1, rfl, rfl⟩ | exact Or.inl ⟨fun g => c_14 g.2, rfl, rfl⟩
def trialV (m : Nat → Int) (t k : Int) : Int := if k = 0 then manyV m (m 4).toNat t else if k = 1 then (if manyV m (m 4).toNat t = 0 then 0 else faultAtV m (m 4).toNat t 0 0) else if k = 2 then (if manyV m (m 4).toNat t = 0 then -1 else faultAtV m (m 4).toNat t 0 1) else if k = 3 then m (1610 + 72 * t).toNat else if k = 4 then m (1612 + 72 * t).toNat else m 2
set_option maxHeartbeats 4000000 in
set_option maxRecDepth 100000 in
theorem m_trialNow {G : mG} {l : Launch} (d : Nat) {h : mH} {x s : Nat} {f4 f6 f8 f9 f10 f11 f12 f13 f14 f16 f18 : Int} {m kp was pool tape pln pap rwd rw : Nat → Int}(hB : isM h x (mFs x f4 f6 f8 f9 f10 f11 f12 f13 f14 f16 f18 s) m kp was pool tape pln pap rwd rw) (hok : mOk m) {t k : Int} (ht : 0 ≤ t ∧ t ≤ 9) (hk : InR k) : RUNM G l (d + 5) mX11_trialNow [.ref x, .int (J t), .int (J k)] h (fun v h' => v = some (.int (J (trialV m t k))) ∧ h' = h) := by
  obtain ⟨hM, k0, k1, k2, k3, k4, k5, k7⟩ := id hok
  have hB0 := hB
  dsimp only [mFs] at hB
  refine RUNM.of (by decide +kernel) (Nat.le_of_ble_eq_true rfl) ?_
  have rm : InR (manyV m (m 4).toNat t) := by have := cnt_r (faultB m t) (m 4).toNat; unfold manyV; rw [if_pos ht.1]; constructor <;> split <;> omega
  have rm0 : 0 ≤ manyV m (m 4).toNat t := by have := cnt_r (faultB m t) (m 4).toNat; unfold manyV; rw [if_pos ht.1]; split <;> omega
  refine r_iload_n (pc := 0) dX11_trialNow_0 rfl ?_
  refine rj_tsw (pc := 1) dX11_trialNow_1 (by first | assumption | exact b01_r | exact bz_r | omega | (constructor <;> omega) | exact hM _ | exact hPo _ | exact hTa _ | exact hRo _) (by decide) (by decide) (by decide) (fun off_1 tgt_1 ho_1 ht_1 => ?_)
  by_cases e_1_0 : k = 0
  · rw [e_1_0] at ho_1
    obtain rfl : off_1 = 35 := ho_1.symm.trans (by decide)
    obtain rfl : tgt_1 = 36 := by omega
    refine r_aload_n (pc := 36) dX11_trialNow_36 rfl (by first | rfl | exact isRefV_rf _) ?_
    refine r_iload_n (pc := 37) dX11_trialNow_37 rfl ?_
    refine r_callV1 (pc := 38) dX11_trialNow_38 qX11_manyFaults kX11_232 vX11_manyFaults (by exact isM.gx (by assumption)) rfl rfl (Nat.le_of_ble_eq_true rfl) ((m_manyFaults 0 hB0 hM (N := (m 4).toNat) (by omega) (by omega) (by constructor <;> omega) (by omega)).deeper (by omega)) (fun v_38 h_38 q_38 => ?_)
    obtain ⟨rfl, rfl⟩ := q_38
    refine r_ireturn (pc := 41) .int dX11_trialNow_41 rfl (by first | rfl | assumption) ?_
    exact ⟨by unfold trialV; simp (config := {decide := true}) only [*, if_true, if_false, ite_true, ite_false], rfl⟩
  by_cases e_1_1 : k = 1
  · rw [e_1_1] at ho_1
    obtain rfl : off_1 = 41 := ho_1.symm.trans (by decide)
    obtain rfl : tgt_1 = 42 := by omega
    refine r_aload_n (pc := 42) dX11_trialNow_42 rfl (by first | rfl | exact isRefV_rf _) ?_
    refine r_iload_n (pc := 43) dX11_trialNow_43 rfl ?_
    refine r_callV1 (pc := 44) dX11_trialNow_44 qX11_manyFaults kX11_232 vX11_manyFaults (by exact isM.gx (by assumption)) rfl rfl (Nat.le_of_ble_eq_true rfl) ((m_manyFaults 0 hB0 hM (N := (m 4).toNat) (by omega) (by omega) (by constructor <;> omega) (by omega)).deeper (by omega)) (fun v_44 h_44 q_44 => ?_)
    obtain ⟨rfl, rfl⟩ := q_44
    refine rj_if_ne (pc := 47) (tgt := 54) dX11_trialNow_47 (by decide) (by first | assumption | exact b01_r | exact bz_r | omega | (constructor <;> omega) | exact hM _ | exact hPo _ | exact hTa _ | exact hRo _) (fun c_47 => ?_) (fun c_47 => ?_)
    · try simp only [b01_0, bz_0, Classical.not_not] at c_47
      refine r_aload_n (pc := 54) dX11_trialNow_54 rfl (by first | rfl | exact isRefV_rf _) ?_
      refine r_iload_n (pc := 55) dX11_trialNow_55 rfl ?_
      refine rj_iconst (pc := 56) dX11_trialNow_56 ?_
      refine rj_iconst (pc := 57) dX11_trialNow_57 ?_
      refine r_callV3 (pc := 58) dX11_trialNow_58 qX11_faultAt kX11_235 vX11_faultAt (by exact isM.gx (by assumption)) rfl rfl (Nat.le_of_ble_eq_true rfl) ((m_faultAt 0 hB0 hM (N := (m 4).toNat) (by omega) (by omega) (by constructor <;> omega) (by decide) (by omega) (by omega) (by decide) (by omega)).deeper (by omega)) (fun v_58 h_58 q_58 => ?_)
      obtain ⟨rfl, rfl⟩ := q_58
      refine r_ireturn (pc := 61) .int dX11_trialNow_61 rfl (by first | rfl | assumption) ?_
      exact ⟨by unfold trialV; simp (config := {decide := true}) only [*, if_true, if_false, ite_true, ite_false], rfl⟩
    · try simp only [b01_0, bz_0, Classical.not_not] at c_47
      refine rj_iconst (pc := 50) dX11_trialNow_50 ?_
      refine r_goto (pc := 51) (tgt := 61) dX11_trialNow_51 (by decide) ?_
      refine r_ireturn (pc := 61) .int dX11_trialNow_61 rfl (by first | rfl | assumption) ?_
      exact ⟨by unfold trialV; simp (config := {decide := true}) only [*, if_true, if_false, ite_true, ite_false], rfl⟩
  by_cases e_1_2 : k = 2
  · rw [e_1_2] at ho_1
    obtain rfl : off_1 = 61 := ho_1.symm.trans (by decide)
    obtain rfl : tgt_1 = 62 := by omega
    refine r_aload_n (pc := 62) dX11_trialNow_62 rfl (by first | rfl | exact isRefV_rf _) ?_
    refine r_iload_n (pc := 63) dX11_trialNow_63 rfl ?_
    refine r_callV1 (pc := 64) dX11_trialNow_64 qX11_manyFaults kX11_232 vX11_manyFaults (by exact isM.gx (by assumption)) rfl rfl (Nat.le_of_ble_eq_true rfl) ((m_manyFaults 0 hB0 hM (N := (m 4).toNat) (by omega) (by omega) (by constructor <;> omega) (by omega)).deeper (by omega)) (fun v_64 h_64 q_64 => ?_)
    obtain ⟨rfl, rfl⟩ := q_64
    refine rj_if_ne (pc := 67) (tgt := 74) dX11_trialNow_67 (by decide) (by first | assumption | exact b01_r | exact bz_r | omega | (constructor <;> omega) | exact hM _ | exact hPo _ | exact hTa _ | exact hRo _) (fun c_67 => ?_) (fun c_67 => ?_)
    · try simp only [b01_0, bz_0, Classical.not_not] at c_67
      refine r_aload_n (pc := 74) dX11_trialNow_74 rfl (by first | rfl | exact isRefV_rf _) ?_
      refine r_iload_n (pc := 75) dX11_trialNow_75 rfl ?_
      refine rj_iconst (pc := 76) dX11_trialNow_76 ?_
      refine rj_iconst (pc := 77) dX11_trialNow_77 ?_
      refine r_callV3 (pc := 78) dX11_trialNow_78 qX11_faultAt kX11_235 vX11_faultAt (by exact isM.gx (by assumption)) rfl rfl (Nat.le_of_ble_eq_true rfl) ((m_faultAt 0 hB0 hM (N := (m 4).toNat) (by omega) (by omega) (by constructor <;> omega) (by decide) (by omega) (by omega) (by decide) (by omega)).deeper (by omega)) (fun v_78 h_78 q_78 => ?_)
      obtain ⟨rfl, rfl⟩ := q_78
      refine r_ireturn (pc := 81) .int dX11_trialNow_81 rfl (by first | rfl | assumption) ?_
      exact ⟨by unfold trialV; simp (config := {decide := true}) only [*, if_true, if_false, ite_true, ite_false], rfl⟩
    · try simp only [b01_0, bz_0, Classical.not_not] at c_67
      refine rj_iconst (pc := 70) dX11_trialNow_70 ?_
      refine r_goto (pc := 71) (tgt := 81) dX11_trialNow_71 (by decide) ?_
      refine r_ireturn (pc := 81) .int dX11_trialNow_81 rfl (by first | rfl | assumption) ?_
      exact ⟨by unfold trialV; simp (config := {decide := true}) only [*, if_true, if_false, ite_true, ite_false], rfl⟩
  by_cases e_1_3 : k = 3
  · rw [e_1_3] at ho_1
    obtain rfl : off_1 = 81 := ho_1.symm.trans (by decide)
    obtain rfl : tgt_1 = 82 := by omega
    refine r_aload_n (pc := 82) dX11_trialNow_82 rfl (by first | rfl | exact isRefV_rf _) ?_
    refine rm_getf (pc := 83) dX11_trialNow_83 fX11_11 (by assumption) rfl ?_
    refine r_iload_n (pc := 86) dX11_trialNow_86 rfl ?_
    refine rj_iconst (pc := 87) dX11_trialNow_87 ?_
    refine rj_iconst (pc := 88) dX11_trialNow_88 ?_
    refine r_callS3 (pc := 89) dX11_trialNow_89 qX11_ofTask kX11_58 sX11_ofTask (Nat.le_of_ble_eq_true rfl) (m_ofTask _) (fun v_89 h_89 q_89 => ?_)
    obtain ⟨rfl, rfl⟩ := q_89
    refine rj_iald (pc := 92) (j := (1610 + 72 * t).toNat) dX11_trialNow_92 (by first | exact isM.g0 (by assumption) | exact isM.g3 (by assumption) | exact isM.g4 (by assumption) | exact isM.g8 (by assumption) | exact isM.g7 (by assumption) | exact isM.g6 (by assumption) | exact isM.g5 (by assumption) | exact isM.g1 (by assumption) | exact isM.g2 (by assumption)) (by first | assumption | exact b01_r | exact bz_r | omega | (constructor <;> omega) | exact hM _ | exact hPo _ | exact hTa _ | exact hRo _) (by first | assumption | exact b01_r | exact bz_r | omega | (constructor <;> omega) | exact hM _ | exact hPo _ | exact hTa _ | exact hRo _) (by first | assumption | exact b01_r | exact bz_r | omega | (constructor <;> omega) | exact hM _ | exact hPo _ | exact hTa _ | exact hRo _) (by omega) ?_
    refine r_ireturn (pc := 93) .int dX11_trialNow_93 rfl (by first | rfl | assumption) ?_
    exact ⟨by unfold trialV; simp (config := {decide := true}) only [*, if_true, if_false, ite_true, ite_false], rfl⟩
  by_cases e_1_4 : k = 4
  · rw [e_1_4] at ho_1
    obtain rfl : off_1 = 93 := ho_1.symm.trans (by decide)
    obtain rfl : tgt_1 = 94 := by omega
    refine r_aload_n (pc := 94) dX11_trialNow_94 rfl (by first | rfl | exact isRefV_rf _) ?_
    refine rm_getf (pc := 95) dX11_trialNow_95 fX11_11 (by assumption) rfl ?_
    refine r_iload_n (pc := 98) dX11_trialNow_98 rfl ?_
    refine rj_iconst (pc := 99) dX11_trialNow_99 ?_
    refine rj_iconst (pc := 100) dX11_trialNow_100 ?_
    refine r_callS3 (pc := 101) dX11_trialNow_101 qX11_ofTask kX11_58 sX11_ofTask (Nat.le_of_ble_eq_true rfl) (m_ofTask _) (fun v_101 h_101 q_101 => ?_)
    obtain ⟨rfl, rfl⟩ := q_101
    refine rj_iald (pc := 104) (j := (1612 + 72 * t).toNat) dX11_trialNow_104 (by first | exact isM.g0 (by assumption) | exact isM.g3 (by assumption) | exact isM.g4 (by assumption) | exact isM.g8 (by assumption) | exact isM.g7 (by assumption) | exact isM.g6 (by assumption) | exact isM.g5 (by assumption) | exact isM.g1 (by assumption) | exact isM.g2 (by assumption)) (by first | assumption | exact b01_r | exact bz_r | omega | (constructor <;> omega) | exact hM _ | exact hPo _ | exact hTa _ | exact hRo _) (by first | assumption | exact b01_r | exact bz_r | omega | (constructor <;> omega) | exact hM _ | exact hPo _ | exact hTa _ | exact hRo _) (by first | assumption | exact b01_r | exact bz_r | omega | (constructor <;> omega) | exact hM _ | exact hPo _ | exact hTa _ | exact hRo _) (by omega) ?_
    refine r_ireturn (pc := 105) .int dX11_trialNow_105 rfl (by first | rfl | assumption) ?_
    exact ⟨by unfold trialV; simp (config := {decide := true}) only [*, if_true, if_false, ite_true, ite_false], rfl⟩
  have eo_1 : off_1 = 105 := by
    rw [← ho_1]
    unfold tswOff
    rw [if_pos (by omega)]
  obtain rfl : tgt_1 = 106 := by omega
  refine r_aload_n (pc := 106) dX11_trialNow_106 rfl (by first | rfl | exact isRefV_rf _) ?_
  refine rm_getf (pc := 107) dX11_trialNow_107 fX11_11 (by assumption) rfl ?_
  refine rj_iconst (pc := 110) dX11_trialNow_110 ?_
  refine rj_iald (pc := 111) (j := 2) dX11_trialNow_111 (by first | exact isM.g0 (by assumption) | exact isM.g3 (by assumption) | exact isM.g4 (by assumption) | exact isM.g8 (by assumption) | exact isM.g7 (by assumption) | exact isM.g6 (by assumption) | exact isM.g5 (by assumption) | exact isM.g1 (by assumption) | exact isM.g2 (by assumption)) (by first | assumption | exact b01_r | exact bz_r | omega | (constructor <;> omega) | exact hM _ | exact hPo _ | exact hTa _ | exact hRo _) (by first | assumption | exact b01_r | exact bz_r | omega | (constructor <;> omega) | exact hM _ | exact hPo _ | exact hTa _ | exact hRo _) (by first | assumption | exact b01_r | exact bz_r | omega | (constructor <;> omega) | exact hM _ | exact hPo _ | exact hTa _ | exact hRo _) (by omega) ?_
  refine r_ireturn (pc := 112) .int dX11_trialNow_112 rfl (by first | rfl | assumption) ?_
  exact ⟨by unfold trialV; simp (config := {decide := true}) only [*, if_true, if_false, ite_true, ite_false], rfl⟩
set_option maxHeartbeats 4000000 in
set_option maxRecDepth 100000 in
theorem m_trial {G : mG} {l : Launch} {x s : Nat} {f4 f6 f8 f9 f10 f11 f12 f13 f14 f16 f18 : Int} {kp was pool tape pln pap rwd rw : Nat → Int} (hPo : ∀ q, InR (pool q)) (h14 : InR f14) {m m' : Nat → Int} {h : mH} (hB : isM h x (mFs x f4 f6 f8 f9 f10 f11 f12 f13 f14 f16 f18 s) m kp was pool tape pln pap rwd rw) (hok : mOk m) {t n k : Int} {kk : Nat} (ht : InR t) (hn : InR n) (hk : InR k) (hR : (0 ≤ n ∧ n ≤ 100) → ticksR pool n.toNat m kk m' ∧ mOk m') : RUNM G l 403 mX11_trial [.ref x, .int (J t), .int (J n), .int (J k)] h (fun v h' => (¬ ((0 ≤ t ∧ t ≤ m 3 - 1) ∧ (0 ≤ k ∧ k ≤ 5)) ∧ v = some (.int (J (-1))) ∧ h' = h) ∨ (((0 ≤ t ∧ t ≤ m 3 - 1) ∧ (0 ≤ k ∧ k ≤ 5)) ∧ ¬ (0 ≤ n ∧ n ≤ 100) ∧ v = some (.int (J (-2))) ∧ h' = h) ∨ (((0 ≤ t ∧ t ≤ m 3 - 1) ∧ (0 ≤ k ∧ k ≤ 5)) ∧ (0 ≤ n ∧ n ≤ 100) ∧ v = some (.int (J (trialV m' t k))) ∧ (∃ was' g14, InR g14 ∧ isM h' x (mFs x f4 f6 f8 f9 f10 f11 f12 f13 g14 f16 f18 s) m kp was' pool tape pln pap rwd rw) ∧ Same (mBlk x) h h')) := by
  obtain ⟨hM, k0, k1, k2, k3, k4, k5, k7⟩ := id hok
  have hB0 := hB
  dsimp only [mFs] at hB
  refine RUNM.of (by decide +kernel) (Nat.le_of_ble_eq_true rfl) ?_
  refine r_aload_n (pc := 0) dX11_trial_0 rfl (by first | rfl | exact isRefV_rf _) ?_
  refine r_iload_n (pc := 1) dX11_trial_1 rfl ?_
  refine r_callV1 (pc := 2) dX11_trial_2 qX11_isTask kX11_180 vX11_isTask (by exact isM.gx (by assumption)) rfl rfl (Nat.le_of_ble_eq_true rfl) ((m_isTask 0 hB0 ht ⟨by omega, by omega⟩).deeper (by omega)) (fun v_2 h_2 q_2 => ?_)
  obtain ⟨rfl, rfl⟩ := q_2
  refine rj_if_eq (pc := 5) (tgt := 17) dX11_trial_5 (by decide) (by first | assumption | exact b01_r | exact bz_r | omega | (constructor <;> omega) | exact hM _ | exact hPo _ | exact hTa _ | exact hRo _) (fun c_5 => ?_) (fun c_5 => ?_)
  · try simp only [b01_0, bz_0, Classical.not_not] at c_5
    refine rj_iconst (pc := 17) dX11_trial_17 ?_
    refine r_ireturn (pc := 18) .int dX11_trial_18 rfl (by first | rfl | assumption) ?_
    first | exact Or.inl ⟨fun g => c_5 g.1, rfl, rfl⟩ | exact Or.inl ⟨fun g => c_14 g.2, rfl, rfl⟩
  · try simp only [b01_0, bz_0, Classical.not_not] at c_5
    refine r_iload_n (pc := 8) dX11_trial_8 rfl ?_
    refine rj_iconst (pc := 9) dX11_trial_9 ?_
    refine rj_iconst (pc := 10) dX11_trial_10 ?_
    refine r_callS3 (pc := 11) dX11_trial_11 qX11_isIn kX11_46 sX11_isIn (Nat.le_of_ble_eq_true rfl) ((m_isIn 0 hk (by decide) (by decide)).deeper (by omega)) (fun v_11 h_11 q_11 => ?_)
    obtain ⟨rfl, rfl⟩ := q_11
    refine rj_if_ne (pc := 14) (tgt := 19) dX11_trial_14 (by decide) (by first | assumption | exact b01_r | exact bz_r | omega | (constructor <;> omega) | exact hM _ | exact hPo _ | exact hTa _ | exact hRo _) (fun c_14 => ?_) (fun c_14 => ?_)
    · try simp only [b01_0, bz_0, Classical.not_not] at c_14
      refine r_iload_n (pc := 19) dX11_trial_19 rfl ?_
      refine rj_iconst (pc := 20) dX11_trial_20 ?_
      refine rj_bipush (pc := 21) dX11_trial_21 (by decide +kernel) ?_
      refine r_callS3 (pc := 23) dX11_trial_23 qX11_isIn kX11_46 sX11_isIn (Nat.le_of_ble_eq_true rfl) ((m_isIn 0 hn (by decide) (by decide)).deeper (by omega)) (fun v_23 h_23 q_23 => ?_)
      obtain ⟨rfl, rfl⟩ := q_23
      refine rj_if_ne (pc := 26) (tgt := 32) dX11_trial_26 (by decide) (by first | assumption | exact b01_r | exact bz_r | omega | (constructor <;> omega) | exact hM _ | exact hPo _ | exact hTa _ | exact hRo _) (fun c_26 => ?_) (fun c_26 => ?_)
      · try simp only [b01_0, bz_0, Classical.not_not] at c_26
        refine r_aload_n (pc := 32) dX11_trial_32 rfl (by first | rfl | exact isRefV_rf _) ?_
        refine rm_getf (pc := 33) dX11_trial_33 fX11_11 (by assumption) rfl ?_
        refine r_aload_n (pc := 36) dX11_trial_36 rfl (by first | rfl | exact isRefV_rf _) ?_
        refine rm_getf (pc := 37) dX11_trial_37 fX11_18 (by assumption) rfl ?_
        refine r_callS2 (pc := 40) dX11_trial_40 qX11_copies kX11_279 sX11_copies (Nat.le_of_ble_eq_true rfl) ((m_copies 0 (mAd_ne (by decide)) hB.g0 hB.g2 (hB.loA 2)).deeper (Nat.zero_le _)) (fun v_40 h_40 q_40 => ?_)
        obtain ⟨rfl, G_40, S_40⟩ := q_40
        have hB_40 := hB0.cp2 S_40 G_40
        have T_40 := S_40.blk2
        refine r_aload_n (pc := 43) dX11_trial_43 rfl (by first | rfl | exact isRefV_rf _) ?_
        refine r_iload_n (pc := 44) dX11_trial_44 rfl ?_
        refine r_callV1 (pc := 45) dX11_trial_45 qX11_ticks kX11_214 vX11_ticks (by exact isM.gx (by assumption)) rfl rfl (Nat.le_of_ble_eq_true rfl) (by have y := m_ticks (G := G) (l := l) hPo h14 (B := n.toNat) (k := kk) (by omega) hB_40 (hR c_26).1; rw [show ((n.toNat : Nat) : Int) = n by omega] at y; exact y.deeper (by omega)) (fun v_45 h_45 q_45 => ?_)
        obtain ⟨rfl, ⟨g14, hg14, hB_45⟩, S_45⟩ := q_45
        refine r_pop (pc := 48) dX11_trial_48 (by first | rfl | (cases ‹Option Nat› <;> rfl)) ?_
        refine r_aload_n (pc := 49) dX11_trial_49 rfl (by first | rfl | exact isRefV_rf _) ?_
        refine r_iload_n (pc := 50) dX11_trial_50 rfl ?_
        refine r_iload_n (pc := 51) dX11_trial_51 rfl ?_
        refine r_callV2 (pc := 52) dX11_trial_52 qX11_trialNow kX11_289 vX11_trialNow (by exact isM.gx (by assumption)) rfl rfl (Nat.le_of_ble_eq_true rfl) ((m_trialNow 0 hB_45 (hR c_26).2 ⟨by omega, by omega⟩ hk).deeper (by omega)) (fun v_52 h_52 q_52 => ?_)
        obtain ⟨rfl, rfl⟩ := q_52
        refine r_istore (pc := 55) dX11_trial_55 (Nat.le_of_ble_eq_true rfl) ?_
        dsimp only [lsSt, List.set, mLs, mEnt]
        refine r_aload_n (pc := 57) dX11_trial_57 rfl (by first | rfl | exact isRefV_rf _) ?_
        refine rm_getf (pc := 58) dX11_trial_58 fX11_18 (by assumption) rfl ?_
        refine r_aload_n (pc := 61) dX11_trial_61 rfl (by first | rfl | exact isRefV_rf _) ?_
        refine rm_getf (pc := 62) dX11_trial_62 fX11_11 (by assumption) rfl ?_
        refine r_callS2 (pc := 65) dX11_trial_65 qX11_copies kX11_279 sX11_copies (Nat.le_of_ble_eq_true rfl) ((m_copies 0 (mAd_ne (by decide)) hB_45.g2 hB_45.g0 (hB_45.loA 0)).deeper (Nat.zero_le _)) (fun v_65 h_65 q_65 => ?_)
        obtain ⟨rfl, G_65, S_65⟩ := q_65
        have hB_65 := hB_45.cp0 S_65 G_65
        have T_65 := S_65.blk0
        refine RUN.norm (hB_65.loA 0) G_65 (f' := fun q => J (m q)) (fun q hq => by rw [cpF_cp hq]) ?_
        refine r_iload (pc := 68) dX11_trial_68 rfl ?_
        refine r_ireturn (pc := 70) .int dX11_trial_70 rfl (by first | rfl | assumption) ?_
        exact Or.inr (Or.inr ⟨⟨c_5, c_14⟩, c_26, rfl, ⟨_, g14, hg14, hB_65.put0 m⟩, ((T_40.trans S_45).trans T_65).trans (Same.refl.put (mAd_blk (by decide)))⟩)
      · try simp only [b01_0, bz_0, Classical.not_not] at c_26
        refine rj_bipush (pc := 29) dX11_trial_29 (by decide +kernel) ?_
        refine r_ireturn (pc := 31) .int dX11_trial_31 rfl (by first | rfl | assumption) ?_
        exact Or.inr (Or.inl ⟨⟨c_5, c_14⟩, c_26, rfl, rfl⟩)
    · try simp only [b01_0, bz_0, Classical.not_not] at c_14
      refine rj_iconst (pc := 17) dX11_trial_17 ?_
      refine r_ireturn (pc := 18) .int dX11_trial_18 rfl (by first | rfl | assumption) ?_
      first | exact Or.inl ⟨fun g => c_5 g.1, rfl, rfl⟩ | exact Or.inl ⟨fun g => c_14 g.2, rfl, rfl⟩
set_option maxHeartbeats 4000000 in
set_option maxRecDepth 100000 in
theorem m_image {G : mG} {l : Launch} (d : Nat) {h : mH} {x s : Nat} {f4 f6 f8 f9 f10 f11 f12 f13 f14 f16 f18 : Int} {m kp was pool tape pln pap rwd rw : Nat → Int}(hB : isM h x (mFs x f4 f6 f8 f9 f10 f11 f12 f13 f14 f16 f18 s) m kp was pool tape pln pap rwd rw) (hok : mOk m) : RUNM G l (d + 3) mX11_image [.ref x] h (fun v h' => v = some (.int (J (cnt (heldB m) (m 1).toNat))) ∧ isM h' x (mFs x 1 f6 f8 f9 f10 f11 f12 f13 f14 f16 f18 s) m m was pool tape pln pap rwd rw ∧ Same (mBlk x) h h') := by
  obtain ⟨hM, k0, k1, k2, k3, k4, k5, k7⟩ := id hok
  have hB0 := hB
  dsimp only [mFs] at hB
  refine RUNM.of (by decide +kernel) (Nat.le_of_ble_eq_true rfl) ?_
  refine r_aload_n (pc := 0) dX11_image_0 rfl (by first | rfl | exact isRefV_rf _) ?_
  refine rm_getf (pc := 1) dX11_image_1 fX11_11 (by assumption) rfl ?_
  refine r_aload_n (pc := 4) dX11_image_4 rfl (by first | rfl | exact isRefV_rf _) ?_
  refine rm_getf (pc := 5) dX11_image_5 fX11_15 (by assumption) rfl ?_
  refine r_callS2 (pc := 8) dX11_image_8 qX11_copies kX11_279 sX11_copies (Nat.le_of_ble_eq_true rfl) (m_copies _ (mAd_ne (by decide)) hB.g0 hB.g1 (hB.loA 1)) (fun v_8 h_8 q_8 => ?_)
  obtain ⟨rfl, G_8, S_8⟩ := q_8
  have hB_8 := hB0.cp1 S_8 G_8
  have T_8 := S_8.blk1
  refine RUN.norm (hB_8.loA 1) G_8 (f' := fun q => J (m q)) (fun q hq => by rw [cpF_lt hq]) ?_
  replace hB_8 := hB_8.put1 m
  dsimp only [mFs] at hB_8
  refine r_aload_n (pc := 11) dX11_image_11 rfl (by first | rfl | exact isRefV_rf _) ?_
  refine rj_iconst (pc := 12) dX11_image_12 ?_
  refine rm_putf (pc := 13) dX11_image_13 fX11_310 (by assumption) nar_J1 fit_J1 (Nat.le_of_ble_eq_true rfl) (fun h_13 hB_13 hS_13 => ?_)
  dsimp only [List.set, mFs] at hB_13
  have hB_13b : isM h_13 x (mFs x 1 f6 f8 f9 f10 f11 f12 f13 f14 f16 f18 s) m m was pool tape pln pap rwd rw := hB_13
  refine r_aload_n (pc := 16) dX11_image_16 rfl (by first | rfl | exact isRefV_rf _) ?_
  refine r_callV0 (pc := 17) dX11_image_17 qX11_held kX11_276 vX11_held (by exact isM.gx (by assumption)) rfl rfl (Nat.le_of_ble_eq_true rfl) (m_held d hB_13b hM (N := (m 1).toNat) (by omega) (by omega)) (fun v_17 h_17 q_17 => ?_)
  obtain ⟨rfl, rfl⟩ := q_17
  refine r_ireturn (pc := 20) .int dX11_image_20 rfl (by first | rfl | assumption) ?_
  exact ⟨rfl, hB_13b, (T_8.trans (Same.refl.put (mAd_blk (by decide)))).trans hS_13⟩
set_option maxHeartbeats 4000000 in
set_option maxRecDepth 100000 in
theorem m_undo {G : mG} {l : Launch} (d : Nat) {h : mH} {x s : Nat} {f4 f6 f8 f9 f10 f11 f12 f13 f14 f16 f18 : Int} {m kp was pool tape pln pap rwd rw : Nat → Int}(hB : isM h x (mFs x f4 f6 f8 f9 f10 f11 f12 f13 f14 f16 f18 s) m kp was pool tape pln pap rwd rw) (h4 : f4 = 0 ∨ f4 = 1) (hok : mOk kp) : RUNM G l (d + 3) mX11_undo [.ref x] h (fun v h' => (f4 = 0 ∧ v = some (.int (J (-3))) ∧ h' = h) ∨ (f4 = 1 ∧ v = some (.int (J (cnt (heldB kp) (kp 1).toNat))) ∧ isM h' x (mFs x f4 f6 f8 f9 f10 f11 f12 f13 f14 f16 f18 s) kp kp was pool tape pln pap rwd rw ∧ Same (mBlk x) h h')) := by
  obtain ⟨hM, k0, k1, k2, k3, k4, k5, k7⟩ := id hok
  have hB0 := hB
  dsimp only [mFs] at hB
  refine RUNM.of (by decide +kernel) (Nat.le_of_ble_eq_true rfl) ?_
  refine r_aload_n (pc := 0) dX11_undo_0 rfl (by first | rfl | exact isRefV_rf _) ?_
  refine rm_getf (pc := 1) dX11_undo_1 fX11_310 (by assumption) rfl ?_
  refine rj_if_ne (pc := 4) (tgt := 10) dX11_undo_4 (by decide) (by first | assumption | exact b01_r | exact bz_r | omega | (constructor <;> omega) | exact hM _ | exact hPo _ | exact hTa _ | exact hRo _) (fun c_4 => ?_) (fun c_4 => ?_)
  · try simp only [b01_0, bz_0, Classical.not_not] at c_4
    refine r_aload_n (pc := 10) dX11_undo_10 rfl (by first | rfl | exact isRefV_rf _) ?_
    refine rm_getf (pc := 11) dX11_undo_11 fX11_15 (by assumption) rfl ?_
    refine r_aload_n (pc := 14) dX11_undo_14 rfl (by first | rfl | exact isRefV_rf _) ?_
    refine rm_getf (pc := 15) dX11_undo_15 fX11_11 (by assumption) rfl ?_
    refine r_callS2 (pc := 18) dX11_undo_18 qX11_copies kX11_279 sX11_copies (Nat.le_of_ble_eq_true rfl) (m_copies _ (mAd_ne (by decide)) hB.g1 hB.g0 (hB.loA 0)) (fun v_18 h_18 q_18 => ?_)
    obtain ⟨rfl, G_18, S_18⟩ := q_18
    have hB_18 := hB0.cp0 S_18 G_18
    have T_18 := S_18.blk0
    refine RUN.norm (hB_18.loA 0) G_18 (f' := fun q => J (kp q)) (fun q hq => by rw [cpF_lt hq]) ?_
    replace hB_18 := hB_18.put0 kp
    refine r_aload_n (pc := 21) dX11_undo_21 rfl (by first | rfl | exact isRefV_rf _) ?_
    refine r_callV0 (pc := 22) dX11_undo_22 qX11_held kX11_276 vX11_held (by exact isM.gx (by assumption)) rfl rfl (Nat.le_of_ble_eq_true rfl) (m_held d hB_18 hM (N := (kp 1).toNat) (by omega) (by omega)) (fun v_22 h_22 q_22 => ?_)
    obtain ⟨rfl, rfl⟩ := q_22
    refine r_ireturn (pc := 25) .int dX11_undo_25 rfl (by first | rfl | assumption) ?_
    exact Or.inr ⟨by omega, rfl, hB_18, T_18.trans (Same.refl.put (mAd_blk (by decide)))⟩
  · try simp only [b01_0, bz_0, Classical.not_not] at c_4
    refine rj_bipush (pc := 7) dX11_undo_7 (by decide +kernel) ?_
    refine r_ireturn (pc := 9) .int dX11_undo_9 rfl (by first | rfl | assumption) ?_
    exact Or.inl ⟨by omega, rfl, rfl⟩
