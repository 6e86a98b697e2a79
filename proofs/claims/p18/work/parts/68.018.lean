section mg_71
set_option maxHeartbeats 4000000 in
set_option maxRecDepth 100000 in
theorem L_turnFin {G : mG} {l : Launch} {D : Nat} (hD : 280 ≤ D) {x s : Nat} {f4 f6 f8 f9 f10 f11 f12 f13 f14 f16 f18 : Int} {kp was pool tape pln pap rwd rw : Nat → Int} {sh : (Nat → Int) → Int → (Nat → Int) → Prop} (hsh : ∀ (m1 m2 : Nat → Int) (e : Int) (h : mH), isM h x (mFs x f4 f6 f8 f9 f10 f11 f12 f13 f14 f16 f18 s) m1 kp was pool tape pln pap rwd rw → sh m1 e m2 → RUNM G l D mX11_shuts [.ref x, .int (J e)] h (fun v h' => v = none ∧ isM h' x (mFs x f4 f6 f8 f9 f10 f11 f12 f13 f14 f16 f18 s) m2 kp was pool tape pln pap rwd rw ∧ Same (mBlk x) h h')) {t E : Nat} (ht : t ≤ 9) (hE : E ≤ 12342) {m' : Nat → Int} {m : Nat → Int} {p : Nat} {h : mH} (hB : isM h x (mFs x f4 f6 f8 f9 f10 f11 f12 f13 f14 f16 f18 s) m kp was pool tape pln pap rwd rw) (hR : turnFinR sh t E m p m') {go : Int} {v5 : Option Value} : RUN G l (D + 2) mX11_turn 182 [some (.ref x), some (.int (J (t : Int))), some (.int (J (E : Int))), some (.int (J (p : Int))), some (.int (J go)), v5] [] h (fun v h' => v = none ∧ isM h' x (mFs x f4 f6 f8 f9 f10 f11 f12 f13 f14 f16 f18 s) m' kp was pool tape pln pap rwd rw ∧ Same (mBlk x) h h') := by
  obtain ⟨hok, hp, hR⟩ := hR
  obtain ⟨hM, k0, k1, k2, k3, k4, k5, k7⟩ := id hok
  have hB0 := hB
  have e4 : updI m (1611 + 72 * t) p 4 = m 4 := updI_n (by omega)
  have ef : ∀ n, cnt (faultB (updI m (1611 + 72 * t) p) t) n = cnt (faultB m t) n := by
    intro n
    induction n with
    | zero => rfl
    | succ n ih => unfold cnt; rw [ih]; unfold faultB; rw [updI_n (by omega)]
  dsimp only [mFs] at hB
  rcases hR with ⟨hlt, rfl⟩ | ⟨hlt, hR⟩
  · refine r_aload_n (pc := 182) dX11_turn_182 rfl (by first | rfl | exact isRefV_rf _) ?_
    refine rm_getf (pc := 183) dX11_turn_183 fX11_11 (by assumption) rfl ?_
    refine r_iload_n (pc := 186) dX11_turn_186 rfl ?_
    refine rj_iconst (pc := 187) dX11_turn_187 ?_
    refine rj_iconst (pc := 188) dX11_turn_188 ?_
    refine r_callS3 (pc := 189) dX11_turn_189 qX11_ofTask kX11_58 sX11_ofTask (Nat.le_of_ble_eq_true rfl) (m_ofTask _) (fun v_189 h_189 q_189 => ?_)
    obtain ⟨rfl, rfl⟩ := q_189
    refine r_iload_n (pc := 192) dX11_turn_192 rfl ?_
    first | refine rm_iast0 (pc := 193) (j := 1611 + 72 * t) dX11_turn_193 (by assumption) (by first | assumption | exact b01_r | exact bz_r | omega | (constructor <;> omega) | exact hM _ | exact hPo _ | exact hTa _ | exact hRo _) (by first | assumption | exact b01_r | exact bz_r | omega | (constructor <;> omega) | exact hM _ | exact hPo _ | exact hTa _ | exact hRo _) (by first | assumption | exact b01_r | exact bz_r | omega | (constructor <;> omega) | exact hM _ | exact hPo _ | exact hTa _ | exact hRo _) (by omega) (fun h_193 hB_193 hS_193 => ?_)
    refine r_iload_n (pc := 194) dX11_turn_194 rfl ?_
    refine r_iload_n (pc := 195) dX11_turn_195 rfl ?_
    refine rj_icmp_lt (pc := 196) (tgt := 217) dX11_turn_196 (by decide) (by first | assumption | exact b01_r | exact bz_r | omega | (constructor <;> omega) | exact hM _ | exact hPo _ | exact hTa _ | exact hRo _) (by first | assumption | exact b01_r | exact bz_r | omega | (constructor <;> omega) | exact hM _ | exact hPo _ | exact hTa _ | exact hRo _) (fun c_196 => ?_) (fun c_196 => ?_)
    · refine r_return (pc := 217) dX11_turn_217 rfl ?_
      exact ⟨rfl, hB_193, hS_193⟩
    · exfalso; omega
  · have rg : InR (cnt (faultB m t) (m 4).toNat) := by have := cnt_r (faultB m t) (m 4).toNat; constructor <;> omega
    refine r_aload_n (pc := 182) dX11_turn_182 rfl (by first | rfl | exact isRefV_rf _) ?_
    refine rm_getf (pc := 183) dX11_turn_183 fX11_11 (by assumption) rfl ?_
    refine r_iload_n (pc := 186) dX11_turn_186 rfl ?_
    refine rj_iconst (pc := 187) dX11_turn_187 ?_
    refine rj_iconst (pc := 188) dX11_turn_188 ?_
    refine r_callS3 (pc := 189) dX11_turn_189 qX11_ofTask kX11_58 sX11_ofTask (Nat.le_of_ble_eq_true rfl) (m_ofTask _) (fun v_189 h_189 q_189 => ?_)
    obtain ⟨rfl, rfl⟩ := q_189
    refine r_iload_n (pc := 192) dX11_turn_192 rfl ?_
    first | refine rm_iast0 (pc := 193) (j := 1611 + 72 * t) dX11_turn_193 (by assumption) (by first | assumption | exact b01_r | exact bz_r | omega | (constructor <;> omega) | exact hM _ | exact hPo _ | exact hTa _ | exact hRo _) (by first | assumption | exact b01_r | exact bz_r | omega | (constructor <;> omega) | exact hM _ | exact hPo _ | exact hTa _ | exact hRo _) (by first | assumption | exact b01_r | exact bz_r | omega | (constructor <;> omega) | exact hM _ | exact hPo _ | exact hTa _ | exact hRo _) (by omega) (fun h_193 hB_193 hS_193 => ?_)
    refine r_iload_n (pc := 194) dX11_turn_194 rfl ?_
    refine r_iload_n (pc := 195) dX11_turn_195 rfl ?_
    refine rj_icmp_lt (pc := 196) (tgt := 217) dX11_turn_196 (by decide) (by first | assumption | exact b01_r | exact bz_r | omega | (constructor <;> omega) | exact hM _ | exact hPo _ | exact hTa _ | exact hRo _) (by first | assumption | exact b01_r | exact bz_r | omega | (constructor <;> omega) | exact hM _ | exact hPo _ | exact hTa _ | exact hRo _) (fun c_196 => ?_) (fun c_196 => ?_)
    · exfalso; omega
    · refine r_aload_n (pc := 199) dX11_turn_199 rfl (by first | rfl | exact isRefV_rf _) ?_
      refine r_iload_n (pc := 200) dX11_turn_200 rfl ?_
      refine r_aload_n (pc := 201) dX11_turn_201 rfl (by first | rfl | exact isRefV_rf _) ?_
      refine r_iload_n (pc := 202) dX11_turn_202 rfl ?_
      refine r_callV1 (pc := 203) dX11_turn_203 qX11_gatheredBy kX11_198 vX11_gatheredBy (by exact isM.gx (by assumption)) rfl rfl (Nat.le_of_ble_eq_true rfl) (by have y := m_gatheredBy (G := G) (l := l) 0 hB_193 (fun q => by unfold updI; split; exact ⟨by omega, by omega⟩; exact hM q) (N := (m 4).toNat) (by rw [e4]; omega) (by omega) (a := (t : Int)) ⟨by omega, by omega⟩; rw [ef] at y; exact y.deeper (by omega)) (fun v_203 h_203 q_203 => ?_)
      obtain ⟨rfl, rfl⟩ := q_203
      refine rj_if_ne (pc := 206) (tgt := 213) dX11_turn_206 (by decide) (by first | assumption | exact b01_r | exact bz_r | omega | (constructor <;> omega) | exact hM _ | exact hPo _ | exact hTa _ | exact hRo _) (fun c_206 => ?_) (fun c_206 => ?_)
      · try simp only [b01_0, bz_0, Classical.not_not] at c_206
        refine rj_iconst (pc := 213) dX11_turn_213 ?_
        rw [show (J 2) = J (if cnt (faultB m t) (m 4).toNat = 0 then 1 else 2) by rw [if_neg c_206]]
        refine r_callV2 (pc := 214) dX11_turn_214 qX11_isOver kX11_192 vX11_isOver (by exact isM.gx (by assumption)) rfl rfl (Nat.le_of_ble_eq_true rfl) ((m_isOver hD hsh hB_193 hR).deeper (by omega)) (fun v_214 h_214 q_214 => ?_)
        obtain ⟨rfl, hB_214, S_214⟩ := q_214
        refine r_return (pc := 217) dX11_turn_217 rfl ?_
        exact ⟨rfl, hB_214, hS_193.trans S_214⟩
      · try simp only [b01_0, bz_0, Classical.not_not] at c_206
        refine rj_iconst (pc := 209) dX11_turn_209 ?_
        refine r_goto (pc := 210) (tgt := 214) dX11_turn_210 (by decide) ?_
        rw [show (J 1) = J (if cnt (faultB m t) (m 4).toNat = 0 then 1 else 2) by rw [if_pos c_206]]
        refine r_callV2 (pc := 214) dX11_turn_214 qX11_isOver kX11_192 vX11_isOver (by exact isM.gx (by assumption)) rfl rfl (Nat.le_of_ble_eq_true rfl) ((m_isOver hD hsh hB_193 hR).deeper (by omega)) (fun v_214 h_214 q_214 => ?_)
        obtain ⟨rfl, hB_214, S_214⟩ := q_214
        refine r_return (pc := 217) dX11_turn_217 rfl ?_
        exact ⟨rfl, hB_214, hS_193.trans S_214⟩
end mg_71
