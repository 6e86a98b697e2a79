section mg_68
/-! ===== the reference: steps and closers as relations, with a bound on how deep closers close others ===== -/
def digR (pool : Nat → Int) (p n : Nat) : Prop := n ≤ 20 ∧ stopsBy pool n (if pool (p) = 45 then p + 1 else p)
/-- a step that is no ?: from m it comes to m' with the fault f; cl: what closing a thing does -/
def stpR (pool : Nat → Int) (cl : (Nat → Int) → Nat → (Nat → Int) → Prop) (m : Nat → Int) (p : Nat) (s2 f : Int) (m' : Nat → Int) : Prop :=
  mOk m ∧ InR s2 ∧ p + 40 ≤ 12342 ∧
  ((pool p = 43 ∧ (48 ≤ pool (p + 1) ∧ pool (p + 1) ≤ 55) ∧ f = 0 ∧ ∃ n, digR pool (p + 3) n ∧ m' = updI m (10 + pool (p + 1) - 48).toNat (wrap (m (10 + pool (p + 1) - 48).toNat + numAt pool n (p + 3)))) ∨
   (pool p = 33 ∧ m' = m ∧ ∃ n, digR pool (p + 1) n ∧ f = numAt pool n (p + 1)) ∨
   (pool p = 97 ∧ ∃ n, p + 10 + n ≤ 12341 ∧ (pool (neL pool 7 (p + 1)) = 123 → brStop pool n ((neL pool 7 (p + 1)) + 1) 1) ∧ f = takenV m pool (m 1).toNat (p + 1) (neL pool 7 (p + 1)) s2 ∧ m' = takenM m pool (m 1).toNat n (p + 1) (neL pool 7 (p + 1)) s2) ∨
   (pool p = 120 ∧ (((hbL m pool (p + 1) (neL pool 7 (p + 1)) (m 1).toNat 0) < 0 ∧ f = 104 ∧ m' = m) ∨ (0 ≤ (hbL m pool (p + 1) (neL pool 7 (p + 1)) (m 1).toNat 0) ∧ f = 0 ∧ cl m (hbL m pool (p + 1) (neL pool 7 (p + 1)) (m 1).toNat 0).toNat m'))) ∨
   (pool p = 109 ∧ ∃ n, digR pool ((neL pool 7 (p + 1)) + 1) n ∧ InR (numAt pool n ((neL pool 7 (p + 1)) + 1)) ∧ (((hbL m pool (p + 1) (neL pool 7 (p + 1)) (m 1).toNat 0) < 0 ∧ f = 104 ∧ m' = m) ∨ (0 ≤ (hbL m pool (p + 1) (neL pool 7 (p + 1)) (m 1).toNat 0) ∧ ¬ openP m (numAt pool n ((neL pool 7 (p + 1)) + 1)) ∧ f = 105 ∧ m' = m) ∨ (0 ≤ (hbL m pool (p + 1) (neL pool 7 (p + 1)) (m 1).toNat 0) ∧ openP m (numAt pool n ((neL pool 7 (p + 1)) + 1)) ∧ f = 0 ∧ m' = movesM m (hbL m pool (p + 1) (neL pool 7 (p + 1)) (m 1).toNat 0).toNat (numAt pool n ((neL pool 7 (p + 1)) + 1))))) ∨
   (pool p = 107 ∧ (48 ≤ pool (p + 1) ∧ pool (p + 1) ≤ 57) ∧ f = (if (pool (p + 1) - 48) ≤ m 3 - 1 ∧ m (1610 + 72 * (pool (p + 1) - 48)).toNat = 0 then 0 else 106) ∧ m' = (if (pool (p + 1) - 48) ≤ m 3 - 1 ∧ m (1610 + 72 * (pool (p + 1) - 48)).toNat = 0 then updI m (1614 + 72 * (pool (p + 1) - 48)).toNat 1 else m)) ∨
   ((¬ pool p = 33 ∧ ¬ pool p = 43 ∧ ¬ pool p = 63 ∧ ¬ pool p = 97 ∧ ¬ pool p = 107 ∧ ¬ pool p = 109 ∧ ¬ pool p = 120) ∧ f = 0 ∧ m' = m))
def doesR (pool : Nat → Int) (cl : (Nat → Int) → Nat → (Nat → Int) → Prop) (m : Nat → Int) (p : Nat) (s2 f : Int) (m' : Nat → Int) : Prop :=
  stpR pool cl m p s2 f m' ∨
  (pool p = 63 ∧ mOk m ∧ InR s2 ∧ p + 40 ≤ 12342 ∧ (48 ≤ pool (p + 1) ∧ pool (p + 1) ≤ 55) ∧ ∃ n k, digR pool (p + 3) n ∧ (p + 3 ≤ k ∧ k ≤ p + 30) ∧ pool k = 58 ∧ (∀ j, p + 3 ≤ j → j < k → ¬ pool j = 58) ∧ InR (numAt pool n (p + 3)) ∧
    ((m (10 + pool (p + 1) - 48).toNat < numAt pool n (p + 3) ∧ stpR pool cl m (k + 1) s2 f m') ∨ (¬ m (10 + pool (p + 1) - 48).toNat < numAt pool n (p + 3) ∧ f = 0 ∧ m' = m)))
/-- the steps of a thing's closer, from a place to its end -/
def loopR (pool : Nat → Int) (dr : (Nat → Int) → Nat → Int → Int → (Nat → Int) → Prop) (t E : Nat) : Nat → (Nat → Int) → Nat → Int → (Nat → Int) → Prop
  | 0, m, p, f, m' => E ≤ p ∧ f = 0 ∧ m' = m
  | n + 1, m, p, f, m' => (E ≤ p ∧ f = 0 ∧ m' = m) ∨ (p < E ∧ ∃ f1 m1, dr m p (m (259 + 14 * t)) f1 m1 ∧ InR f1 ∧ ((¬ f1 = 0 ∧ f = f1 ∧ m' = m1) ∨ (f1 = 0 ∧ loopR pool dr t E n m1 (behL pool (E - p) p 0 + 1) f m')))
def closedM (m : Nat → Int) (t : Nat) : Nat → Int := updI (updI (updI (updI m (258 + 14 * t) 2) (264 + 14 * t) (m 2)) (1518 + m 2).toNat t) 2 (m 2 + 1)
/-- a thing is closed; closers that close others go at most so deep -/
def closesR (pool : Nat → Int) (sink : Int) : Nat → (Nat → Int) → Nat → (Nat → Int) → Prop
  | 0, _, _, _ => False
  | n + 1, m, t, m' => mOk m ∧ t ≤ 89 ∧ ((¬ m (258 + 14 * t) = 0 ∧ m' = m) ∨ (m (258 + 14 * t) = 0 ∧ ∃ (p E k : Nat) (f : Int) (m2 : Nat → Int), m (262 + 14 * t) = p ∧ m (263 + 14 * t) = E ∧ p ≤ 12342 ∧ E ≤ 12342 ∧ loopR pool (doesR pool (closesR pool sink n)) t E k (updI m (258 + 14 * t) 1) p f m2 ∧ mOk m2 ∧ InR f ∧ m2 2 ≤ 89 ∧ m2 4 ≤ 119 ∧ m2 5 ≤ 119 ∧ m' = closedM (if f = 0 then m2 else gathersM m2 sink f t) t))
set_option maxHeartbeats 4000000 in
set_option maxRecDepth 100000 in
theorem m_step {G : mG} {l : Launch} {D : Nat} (hD : 5 ≤ D) {x s : Nat} {f4 f6 f8 f9 f10 f11 f12 f13 f14 f16 f18 : Int} {m kp was pool tape pln pap rwd rw : Nat → Int} {cl : (Nat → Int) → Nat → (Nat → Int) → Prop} (hPo : ∀ q, InR (pool q)) (hcl : ∀ (m1 m2 : Nat → Int) (t : Nat) (h : mH), isM h x (mFs x f4 f6 f8 f9 f10 f11 f12 f13 f14 f16 f18 s) m1 kp was pool tape pln pap rwd rw → cl m1 t m2 → RUNM G l D mX11_closes [.ref x, .int (J (t : Int))] h (fun v h' => v = none ∧ isM h' x (mFs x f4 f6 f8 f9 f10 f11 f12 f13 f14 f16 f18 s) m2 kp was pool tape pln pap rwd rw ∧ Same (mBlk x) h h')) {h : mH} (hB : isM h x (mFs x f4 f6 f8 f9 f10 f11 f12 f13 f14 f16 f18 s) m kp was pool tape pln pap rwd rw) {p : Nat} {s2 f : Int} {m' : Nat → Int} (hR : stpR pool cl m p s2 f m') : RUNM G l (D + 1) mX11_does [.ref x, .int (J (p : Int)), .int (J s2)] h (fun v h' => v = some (.int (J f)) ∧ isM h' x (mFs x f4 f6 f8 f9 f10 f11 f12 f13 f14 f16 f18 s) m' kp was pool tape pln pap rwd rw ∧ Same (mBlk x) h h') := by
  obtain ⟨hok, hs, hp, hR⟩ := hR
  have hN : m 1 = ((m 1).toNat : Int) := by have := hok.2.2.1; omega
  rcases hR with ⟨hk, hc, rfl, n, hd, rfl⟩ | ⟨hk, rfl, n, hd, rfl⟩ | ⟨hk, n, hpn, hst, rfl, rfl⟩ | ⟨hk, hR⟩ | ⟨hk, n, hd, hnr, hR⟩ | ⟨hk, hc, rfl, rfl⟩ | ⟨hk, rfl, rfl⟩
  · exact (d_plus 0 hB hp hPo hok hs hk hc hd.1 hd.2).deeper (by omega)
  · exact ((d_bang 0 hB hp hPo hok hs hk hd.1 hd.2).deeper (by omega)).mono (fun v h' q => ⟨q.1, q.2 ▸ hB, q.2 ▸ Same.refl⟩)
  · exact (d_take 0 hB hp hPo hok hs hk hN rfl hpn hst).deeper (by omega)
  · rcases hR with ⟨ht, rfl, rfl⟩ | ⟨ht, rfl, hcR⟩
    · exact ((d_closeN 0 hB hp hPo hok hs hk hN rfl ht).deeper (by omega)).mono (fun v h' q => ⟨q.1, q.2 ▸ hB, q.2 ▸ Same.refl⟩)
    · refine d_closeY 0 hB hp hPo hok hs hk hN rfl ht ?_ (by omega)
      have y := hcl m m' (hbL m pool (p + 1) (neL pool 7 (p + 1)) (m 1).toNat 0).toNat h hB hcR
      rw [show (((hbL m pool (p + 1) (neL pool 7 (p + 1)) (m 1).toNat 0).toNat : Nat) : Int) = (hbL m pool (p + 1) (neL pool 7 (p + 1)) (m 1).toNat 0) by omega] at y
      exact y
  · rcases hR with ⟨ht, rfl, rfl⟩ | ⟨ht, ho, rfl, rfl⟩ | ⟨ht, ho, rfl, rfl⟩
    · exact ((d_moveN 0 hB hp hPo hok hs hk hN rfl hd.1 hd.2 hnr ht).deeper (by omega)).mono (fun v h' q => ⟨q.1, q.2 ▸ hB, q.2 ▸ Same.refl⟩)
    · exact ((d_moveO 0 hB hp hPo hok hs hk hN rfl hd.1 hd.2 hnr ht ho).deeper (by omega)).mono (fun v h' q => ⟨q.1, q.2 ▸ hB, q.2 ▸ Same.refl⟩)
    · exact (d_moveY 0 hB hp hPo hok hs hk hN rfl hd.1 hd.2 hnr ht ho).deeper (by omega)
  · exact (d_cancel 0 hB hp hPo hok hs hk hc).deeper (by omega)
  · exact ((d_nop 0 hB hp hPo hok hs hk).deeper (by omega)).mono (fun v h' q => ⟨q.1, q.2 ▸ hB, q.2 ▸ Same.refl⟩)
set_option maxHeartbeats 4000000 in
set_option maxRecDepth 100000 in
theorem m_does {G : mG} {l : Launch} {D : Nat} (hD : 5 ≤ D) {x s : Nat} {f4 f6 f8 f9 f10 f11 f12 f13 f14 f16 f18 : Int} {m kp was pool tape pln pap rwd rw : Nat → Int} {cl : (Nat → Int) → Nat → (Nat → Int) → Prop} (hPo : ∀ q, InR (pool q)) (hcl : ∀ (m1 m2 : Nat → Int) (t : Nat) (h : mH), isM h x (mFs x f4 f6 f8 f9 f10 f11 f12 f13 f14 f16 f18 s) m1 kp was pool tape pln pap rwd rw → cl m1 t m2 → RUNM G l D mX11_closes [.ref x, .int (J (t : Int))] h (fun v h' => v = none ∧ isM h' x (mFs x f4 f6 f8 f9 f10 f11 f12 f13 f14 f16 f18 s) m2 kp was pool tape pln pap rwd rw ∧ Same (mBlk x) h h')) {h : mH} (hB : isM h x (mFs x f4 f6 f8 f9 f10 f11 f12 f13 f14 f16 f18 s) m kp was pool tape pln pap rwd rw) {p : Nat} {s2 f : Int} {m' : Nat → Int} (hR : doesR pool cl m p s2 f m') : RUNM G l (D + 2) mX11_does [.ref x, .int (J (p : Int)), .int (J s2)] h (fun v h' => v = some (.int (J f)) ∧ isM h' x (mFs x f4 f6 f8 f9 f10 f11 f12 f13 f14 f16 f18 s) m' kp was pool tape pln pap rwd rw ∧ Same (mBlk x) h h') := by
  rcases hR with hR | ⟨hk, hok, hs, hp, hc, n, k, hd, hk3, hcol, hnc, hnr, hR⟩
  · exact (m_step hD hPo hcl hB hR).deeper (by omega)
  · rcases hR with ⟨hcd, hR⟩ | ⟨hcd, rfl, rfl⟩
    · have y := m_step hD hPo hcl hB hR
      rw [show ((k + 1 : Nat) : Int) = (k : Int) + 1 by omega] at y
      exact (d_ifY 0 hB hp hPo hok hs hk hc hd.1 hd.2 hk3.1 hk3.2 hcol hnc hcd hnr (Q := (fun v h' => v = some (.int (J f)) ∧ isM h' x (mFs x f4 f6 f8 f9 f10 f11 f12 f13 f14 f16 f18 s) m' kp was pool tape pln pap rwd rw ∧ Same (mBlk x) h h')) (by omega) (y.mono (fun v h' q => ⟨⟨_, q.1⟩, q⟩)))
    · exact ((d_ifN 0 hB hp hPo hok hs hk hc hd.1 hd.2 hk3.1 hk3.2 hcol hnc hcd hnr).deeper (by omega)).mono (fun v h' q => ⟨q.1, q.2 ▸ hB, q.2 ▸ Same.refl⟩)
end mg_68
section mg_69
/-! ===== the reference: closing a thing ===== -/
set_option maxHeartbeats 4000000 in
set_option maxRecDepth 100000 in
theorem L_closed {G : mG} {l : Launch} {D : Nat} {h : mH} {x s : Nat} {f4 f6 f8 f9 f10 f11 f12 f13 f14 f16 f18 : Int} {m kp was pool tape pln pap rwd rw : Nat → Int}(hB : isM h x (mFs x f4 f6 f8 f9 f10 f11 f12 f13 f14 f16 f18 s) m kp was pool tape pln pap rwd rw) {t : Nat} (ht : t ≤ 89) (h2 : 0 ≤ m 2 ∧ m 2 ≤ 89) {f p e : Int} : RUN G l (D + 1) mX11_closes 98 [some (.ref x), some (.int (J (t : Int))), some (.int (J f)), some (.int (J p)), some (.int (J e))] [] h (fun v h' => v = none ∧ isM h' x (mFs x f4 f6 f8 f9 f10 f11 f12 f13 f14 f16 f18 s) (closedM m t) kp was pool tape pln pap rwd rw ∧ Same (mBlk x) h h') := by
  dsimp only [mFs] at hB
  have e1 : updI m (258 + 14 * t) 2 2 = m 2 := updI_n (by omega)
  have e2 : updI (updI m (258 + 14 * t) 2) (264 + 14 * t) (m 2) 2 = m 2 := (updI_n (by omega)).trans e1
  have e3 : updI (updI (updI m (258 + 14 * t) 2) (264 + 14 * t) (m 2)) (1518 + m 2).toNat t 2 = m 2 := (updI_n (by omega)).trans e2
  refine r_aload_n (pc := 98) dX11_closes_98 rfl (by first | rfl | exact isRefV_rf _) ?_
  refine rm_getf (pc := 99) dX11_closes_99 fX11_11 (by assumption) rfl ?_
  refine r_iload_n (pc := 102) dX11_closes_102 rfl ?_
  refine rj_iconst (pc := 103) dX11_closes_103 ?_
  refine rj_iconst (pc := 104) dX11_closes_104 ?_
  refine r_callS3 (pc := 105) dX11_closes_105 qX11_ofThing kX11_54 sX11_ofThing (Nat.le_of_ble_eq_true rfl) (m_ofThing D) (fun v_105 h_105 q_105 => ?_)
  obtain ⟨rfl, rfl⟩ := q_105
  refine rj_iconst (pc := 108) dX11_closes_108 ?_
  first | refine rm_iast0 (pc := 109) (j := 258 + 14 * t) dX11_closes_109 (by assumption) (by first | assumption | exact b01_r | exact bz_r | omega | (constructor <;> omega) | exact hM _ | exact hPo _ | exact hTa _ | exact hRo _) (by first | assumption | exact b01_r | exact bz_r | omega | (constructor <;> omega) | exact hM _ | exact hPo _ | exact hTa _ | exact hRo _) (by first | assumption | exact b01_r | exact bz_r | omega | (constructor <;> omega) | exact hM _ | exact hPo _ | exact hTa _ | exact hRo _) (by omega) (fun h_109 hB_109 hS_109 => ?_)
  refine r_aload_n (pc := 110) dX11_closes_110 rfl (by first | rfl | exact isRefV_rf _) ?_
  refine rm_getf (pc := 111) dX11_closes_111 fX11_11 (by assumption) rfl ?_
  refine r_iload_n (pc := 114) dX11_closes_114 rfl ?_
  refine rj_bipush (pc := 115) dX11_closes_115 (by decide +kernel) ?_
  refine rj_iconst (pc := 117) dX11_closes_117 ?_
  refine r_callS3 (pc := 118) dX11_closes_118 qX11_ofThing kX11_54 sX11_ofThing (Nat.le_of_ble_eq_true rfl) (m_ofThing D) (fun v_118 h_118 q_118 => ?_)
  obtain ⟨rfl, rfl⟩ := q_118
  refine r_aload_n (pc := 121) dX11_closes_121 rfl (by first | rfl | exact isRefV_rf _) ?_
  refine rm_getf (pc := 122) dX11_closes_122 fX11_11 (by assumption) rfl ?_
  refine rj_iconst (pc := 125) dX11_closes_125 ?_
  refine rj_iald (pc := 126) (j := 2) dX11_closes_126 (by first | exact isM.g0 (by assumption) | exact isM.g3 (by assumption) | exact isM.g4 (by assumption) | exact isM.g8 (by assumption) | exact isM.g7 (by assumption) | exact isM.g6 (by assumption) | exact isM.g5 (by assumption) | exact isM.g1 (by assumption) | exact isM.g2 (by assumption)) (by first | assumption | exact b01_r | exact bz_r | omega | (constructor <;> omega) | exact hM _ | exact hPo _ | exact hTa _ | exact hRo _) (by first | assumption | exact b01_r | exact bz_r | omega | (constructor <;> omega) | exact hM _ | exact hPo _ | exact hTa _ | exact hRo _) (by first | assumption | exact b01_r | exact bz_r | omega | (constructor <;> omega) | exact hM _ | exact hPo _ | exact hTa _ | exact hRo _) rfl ?_
  rw [e1]
  first | refine rm_iast0 (pc := 127) (j := 264 + 14 * t) dX11_closes_127 (by assumption) (by first | assumption | exact b01_r | exact bz_r | omega | (constructor <;> omega) | exact hM _ | exact hPo _ | exact hTa _ | exact hRo _) (by first | assumption | exact b01_r | exact bz_r | omega | (constructor <;> omega) | exact hM _ | exact hPo _ | exact hTa _ | exact hRo _) (by first | assumption | exact b01_r | exact bz_r | omega | (constructor <;> omega) | exact hM _ | exact hPo _ | exact hTa _ | exact hRo _) (by omega) (fun h_127 hB_127 hS_127 => ?_)
  refine r_aload_n (pc := 128) dX11_closes_128 rfl (by first | rfl | exact isRefV_rf _) ?_
  refine rm_getf (pc := 129) dX11_closes_129 fX11_11 (by assumption) rfl ?_
  refine rj_sipush (pc := 132) dX11_closes_132 (by decide +kernel) ?_
  refine r_aload_n (pc := 135) dX11_closes_135 rfl (by first | rfl | exact isRefV_rf _) ?_
  refine rm_getf (pc := 136) dX11_closes_136 fX11_11 (by assumption) rfl ?_
  refine rj_iconst (pc := 139) dX11_closes_139 ?_
  refine rj_iald (pc := 140) (j := 2) dX11_closes_140 (by first | exact isM.g0 (by assumption) | exact isM.g3 (by assumption) | exact isM.g4 (by assumption) | exact isM.g8 (by assumption) | exact isM.g7 (by assumption) | exact isM.g6 (by assumption) | exact isM.g5 (by assumption) | exact isM.g1 (by assumption) | exact isM.g2 (by assumption)) (by first | assumption | exact b01_r | exact bz_r | omega | (constructor <;> omega) | exact hM _ | exact hPo _ | exact hTa _ | exact hRo _) (by first | assumption | exact b01_r | exact bz_r | omega | (constructor <;> omega) | exact hM _ | exact hPo _ | exact hTa _ | exact hRo _) (by first | assumption | exact b01_r | exact bz_r | omega | (constructor <;> omega) | exact hM _ | exact hPo _ | exact hTa _ | exact hRo _) rfl ?_
  rw [e2]
  refine rj_iadd (pc := 141) dX11_closes_141 ?_
  refine r_iload_n (pc := 142) dX11_closes_142 rfl ?_
  first | refine rm_iast0 (pc := 143) (j := (1518 + m 2).toNat) dX11_closes_143 (by assumption) (by first | assumption | exact b01_r | exact bz_r | omega | (constructor <;> omega) | exact hM _ | exact hPo _ | exact hTa _ | exact hRo _) (by first | assumption | exact b01_r | exact bz_r | omega | (constructor <;> omega) | exact hM _ | exact hPo _ | exact hTa _ | exact hRo _) (by first | assumption | exact b01_r | exact bz_r | omega | (constructor <;> omega) | exact hM _ | exact hPo _ | exact hTa _ | exact hRo _) (by omega) (fun h_143 hB_143 hS_143 => ?_)
  refine r_aload_n (pc := 144) dX11_closes_144 rfl (by first | rfl | exact isRefV_rf _) ?_
  refine rm_getf (pc := 145) dX11_closes_145 fX11_11 (by assumption) rfl ?_
  refine rj_iconst (pc := 148) dX11_closes_148 ?_
  refine r_dup2 (pc := 149) dX11_closes_149 rfl rfl ?_
  refine rj_iald (pc := 150) (j := 2) dX11_closes_150 (by first | exact isM.g0 (by assumption) | exact isM.g3 (by assumption) | exact isM.g4 (by assumption) | exact isM.g8 (by assumption) | exact isM.g7 (by assumption) | exact isM.g6 (by assumption) | exact isM.g5 (by assumption) | exact isM.g1 (by assumption) | exact isM.g2 (by assumption)) (by first | assumption | exact b01_r | exact bz_r | omega | (constructor <;> omega) | exact hM _ | exact hPo _ | exact hTa _ | exact hRo _) (by first | assumption | exact b01_r | exact bz_r | omega | (constructor <;> omega) | exact hM _ | exact hPo _ | exact hTa _ | exact hRo _) (by first | assumption | exact b01_r | exact bz_r | omega | (constructor <;> omega) | exact hM _ | exact hPo _ | exact hTa _ | exact hRo _) (by omega) ?_
  rw [e3]
  refine rj_iconst (pc := 151) dX11_closes_151 ?_
  refine rj_iadd (pc := 152) dX11_closes_152 ?_
  first | refine rm_iast0 (pc := 153) (j := 2) dX11_closes_153 (by assumption) (by first | assumption | exact b01_r | exact bz_r | omega | (constructor <;> omega) | exact hM _ | exact hPo _ | exact hTa _ | exact hRo _) (by first | assumption | exact b01_r | exact bz_r | omega | (constructor <;> omega) | exact hM _ | exact hPo _ | exact hTa _ | exact hRo _) (by first | assumption | exact b01_r | exact bz_r | omega | (constructor <;> omega) | exact hM _ | exact hPo _ | exact hTa _ | exact hRo _) (by omega) (fun h_153 hB_153 hS_153 => ?_)
  refine r_return (pc := 154) dX11_closes_154 rfl ?_
  exact ⟨rfl, hB_153, ((hS_109.trans hS_127).trans hS_143).trans hS_153⟩
theorem behL_r {pool : Nat → Int} : ∀ (n p : Nat) (u : Int), p ≤ behL pool n p u ∧ behL pool n p u ≤ p + n
  | 0, p, u => by unfold behL; omega
  | n + 1, p, u => by
    have h := behL_r (pool := pool) n (p + 1) (u + brk (pool p))
    unfold behL
    split <;> omega
set_option maxHeartbeats 4000000 in
set_option maxRecDepth 100000 in
theorem L_out {G : mG} {l : Launch} {D : Nat} {h : mH} {f1 : Int} {v0 v1 v3 v4 : Option Value} {Q : Option Value → mH → Prop} (hf1 : InR f1) (hne : ¬ f1 = 0) (K : RUN G l D mX11_closes 88 [v0, v1, some (.int (J f1)), v3, v4] [] h Q) : RUN G l D mX11_closes 48 [v0, v1, some (.int (J f1)), v3, v4] [] h Q := by
  refine r_iload_n (pc := 48) dX11_closes_48 rfl ?_
  refine rj_if_ne (pc := 49) (tgt := 88) dX11_closes_49 (by decide) (by first | assumption | exact b01_r | exact bz_r | omega | (constructor <;> omega) | exact hM _ | exact hPo _ | exact hTa _ | exact hRo _) (fun c_49 => ?_) (fun c_49 => ?_)
  · try simp only [b01_0, bz_0, Classical.not_not] at c_49
    exact K
  · try simp only [b01_0, bz_0, Classical.not_not] at c_49
    exfalso; omega
set_option maxHeartbeats 4000000 in
set_option maxRecDepth 100000 in
theorem L_closes {G : mG} {l : Launch} {D N : Nat} (hD : 5 ≤ D) {x s : Nat} {f4 f6 f8 f9 f10 f11 f12 f13 f14 f16 f18 : Int} {kp was pool tape pln pap rwd rw : Nat → Int} (hPo : ∀ q, InR (pool q)) (hs : InR f14) (hcl : ∀ (m1 m2 : Nat → Int) (t : Nat) (h : mH), isM h x (mFs x f4 f6 f8 f9 f10 f11 f12 f13 f14 f16 f18 s) m1 kp was pool tape pln pap rwd rw → closesR pool f14 N m1 t m2 → RUNM G l D mX11_closes [.ref x, .int (J (t : Int))] h (fun v h' => v = none ∧ isM h' x (mFs x f4 f6 f8 f9 f10 f11 f12 f13 f14 f16 f18 s) m2 kp was pool tape pln pap rwd rw ∧ Same (mBlk x) h h')) {t E : Nat} (ht : t ≤ 89) (hE : E ≤ 12342) {f : Int} {m2 : Nat → Int} (hf : InR f) (h2 : 0 ≤ m2 2 ∧ m2 2 ≤ 89) (h4 : 0 ≤ m2 4 ∧ m2 4 ≤ 119) (h5 : 0 ≤ m2 5 ∧ m2 5 ≤ 119) : ∀ (k : Nat) (m : Nat → Int) (p : Nat) (h : mH), isM h x (mFs x f4 f6 f8 f9 f10 f11 f12 f13 f14 f16 f18 s) m kp was pool tape pln pap rwd rw → (p ≤ 12343) → loopR pool (doesR pool (closesR pool f14 N)) t E k m p f m2 → RUN G l (D + 3) mX11_closes 48 [some (.ref x), some (.int (J (t : Int))), some (.int (J 0)), some (.int (J (p : Int))), some (.int (J (E : Int)))] [] h (fun v h' => v = none ∧ isM h' x (mFs x f4 f6 f8 f9 f10 f11 f12 f13 f14 f16 f18 s) (closedM (if f = 0 then m2 else gathersM m2 f14 f t) t) kp was pool tape pln pap rwd rw ∧ Same (mBlk x) h h') := by
  have fin : ∀ (h : mH) (p : Nat), isM h x (mFs x f4 f6 f8 f9 f10 f11 f12 f13 f14 f16 f18 s) m2 kp was pool tape pln pap rwd rw → RUN G l (D + 3) mX11_closes 88 [some (.ref x), some (.int (J (t : Int))), some (.int (J f)), some (.int (J (p : Int))), some (.int (J (E : Int)))] [] h (fun v h' => v = none ∧ isM h' x (mFs x f4 f6 f8 f9 f10 f11 f12 f13 f14 f16 f18 s) (closedM (if f = 0 then m2 else gathersM m2 f14 f t) t) kp was pool tape pln pap rwd rw ∧ Same (mBlk x) h h') := by
    intro h p hB
    have hB0 := hB
    dsimp only [mFs] at hB
    refine r_iload_n (pc := 88) dX11_closes_88 rfl ?_
    refine rj_if_eq (pc := 89) (tgt := 98) dX11_closes_89 (by decide) (by first | assumption | exact b01_r | exact bz_r | omega | (constructor <;> omega) | exact hM _ | exact hPo _ | exact hTa _ | exact hRo _) (fun c_89 => ?_) (fun c_89 => ?_)
    · try simp only [b01_0, bz_0, Classical.not_not] at c_89
      rw [if_pos c_89]
      exact L_closed hB0 ht h2
    · try simp only [b01_0, bz_0, Classical.not_not] at c_89
      refine r_aload_n (pc := 92) dX11_closes_92 rfl (by first | rfl | exact isRefV_rf _) ?_
      refine r_iload_n (pc := 93) dX11_closes_93 rfl ?_
      refine r_iload_n (pc := 94) dX11_closes_94 rfl ?_
      refine r_callV2 (pc := 95) dX11_closes_95 qX11_gathers kX11_142 vX11_gathers (by exact isM.gx (by assumption)) rfl rfl (Nat.le_of_ble_eq_true rfl) (m_gathers _ hB0 hs h5.1 h5.2 h4.1 h4.2) (fun v_95 h_95 q_95 => ?_)
      obtain ⟨rfl, hB_95, S_95⟩ := q_95
      rw [if_neg c_89]
      have g2 : gathersM m2 f14 f t 2 = m2 2 := by unfold gathersM; split <;> (rw [updI_n (by omega), updI_n (by omega), updI_n (by omega)]; try rw [updI_n (by omega)])
      refine (L_closed (D := D + 2) hB_95 ht (by rw [g2]; exact h2)).mono (fun v h' q => ⟨q.1, q.2.1, S_95.trans q.2.2⟩)
  intro k
  induction k with
  | zero =>
    intro m p h hB hp hL
    obtain ⟨hEp, rfl, rfl⟩ := hL
    have hB0 := hB
    dsimp only [mFs] at hB
    refine r_iload_n (pc := 48) dX11_closes_48 rfl ?_
    refine rj_if_ne (pc := 49) (tgt := 88) dX11_closes_49 (by decide) (by first | assumption | exact b01_r | exact bz_r | omega | (constructor <;> omega) | exact hM _ | exact hPo _ | exact hTa _ | exact hRo _) (fun c_49 => ?_) (fun c_49 => ?_)
    · try simp only [b01_0, bz_0, Classical.not_not] at c_49
      first | (exfalso; omega) | exact absurd trivial ‹¬ True›
    · try simp only [b01_0, bz_0, Classical.not_not] at c_49
      refine r_iload_n (pc := 52) dX11_closes_52 rfl ?_
      refine r_iload (pc := 53) dX11_closes_53 rfl ?_
      refine rj_icmp_ge (pc := 55) (tgt := 88) dX11_closes_55 (by decide) (by first | assumption | exact b01_r | exact bz_r | omega | (constructor <;> omega) | exact hM _ | exact hPo _ | exact hTa _ | exact hRo _) (by first | assumption | exact b01_r | exact bz_r | omega | (constructor <;> omega) | exact hM _ | exact hPo _ | exact hTa _ | exact hRo _) (fun c_55 => ?_) (fun c_55 => ?_)
      · exact fin h p hB0
      · exfalso; omega
  | succ k ih =>
    intro m p h hB hp hL
    have hB0 := hB
    rcases hL with ⟨hEp, rfl, rfl⟩ | ⟨hpE, f1, m1, hdo, hf1, hL⟩
    · dsimp only [mFs] at hB
      refine r_iload_n (pc := 48) dX11_closes_48 rfl ?_
      refine rj_if_ne (pc := 49) (tgt := 88) dX11_closes_49 (by decide) (by first | assumption | exact b01_r | exact bz_r | omega | (constructor <;> omega) | exact hM _ | exact hPo _ | exact hTa _ | exact hRo _) (fun c_49 => ?_) (fun c_49 => ?_)
      · try simp only [b01_0, bz_0, Classical.not_not] at c_49
        first | (exfalso; omega) | exact absurd trivial ‹¬ True›
      · try simp only [b01_0, bz_0, Classical.not_not] at c_49
        refine r_iload_n (pc := 52) dX11_closes_52 rfl ?_
        refine r_iload (pc := 53) dX11_closes_53 rfl ?_
        refine rj_icmp_ge (pc := 55) (tgt := 88) dX11_closes_55 (by decide) (by first | assumption | exact b01_r | exact bz_r | omega | (constructor <;> omega) | exact hM _ | exact hPo _ | exact hTa _ | exact hRo _) (by first | assumption | exact b01_r | exact bz_r | omega | (constructor <;> omega) | exact hM _ | exact hPo _ | exact hTa _ | exact hRo _) (fun c_55 => ?_) (fun c_55 => ?_)
        · exact fin h p hB0
        · exfalso; omega
    · dsimp only [mFs] at hB
      refine r_iload_n (pc := 48) dX11_closes_48 rfl ?_
      refine rj_if_ne (pc := 49) (tgt := 88) dX11_closes_49 (by decide) (by first | assumption | exact b01_r | exact bz_r | omega | (constructor <;> omega) | exact hM _ | exact hPo _ | exact hTa _ | exact hRo _) (fun c_49 => ?_) (fun c_49 => ?_)
      · try simp only [b01_0, bz_0, Classical.not_not] at c_49
        first | (exfalso; omega) | exact absurd trivial ‹¬ True›
      · try simp only [b01_0, bz_0, Classical.not_not] at c_49
        refine r_iload_n (pc := 52) dX11_closes_52 rfl ?_
        refine r_iload (pc := 53) dX11_closes_53 rfl ?_
        refine rj_icmp_ge (pc := 55) (tgt := 88) dX11_closes_55 (by decide) (by first | assumption | exact b01_r | exact bz_r | omega | (constructor <;> omega) | exact hM _ | exact hPo _ | exact hTa _ | exact hRo _) (by first | assumption | exact b01_r | exact bz_r | omega | (constructor <;> omega) | exact hM _ | exact hPo _ | exact hTa _ | exact hRo _) (fun c_55 => ?_) (fun c_55 => ?_)
        · first | (exfalso; omega) | exact absurd trivial ‹¬ True›
        · refine r_aload_n (pc := 58) dX11_closes_58 rfl (by first | rfl | exact isRefV_rf _) ?_
          refine r_iload_n (pc := 59) dX11_closes_59 rfl ?_
          refine r_aload_n (pc := 60) dX11_closes_60 rfl (by first | rfl | exact isRefV_rf _) ?_
          refine rm_getf (pc := 61) dX11_closes_61 fX11_11 (by assumption) rfl ?_
          refine r_iload_n (pc := 64) dX11_closes_64 rfl ?_
          refine rj_iconst (pc := 65) dX11_closes_65 ?_
          refine rj_iconst (pc := 66) dX11_closes_66 ?_
          refine r_callS3 (pc := 67) dX11_closes_67 qX11_ofThing kX11_54 sX11_ofThing (Nat.le_of_ble_eq_true rfl) (m_ofThing _) (fun v_67 h_67 q_67 => ?_)
          obtain ⟨rfl, rfl⟩ := q_67
          refine rj_iald (pc := 70) (j := 259 + 14 * t) dX11_closes_70 (by first | exact isM.g0 (by assumption) | exact isM.g3 (by assumption) | exact isM.g4 (by assumption) | exact isM.g8 (by assumption) | exact isM.g7 (by assumption) | exact isM.g6 (by assumption) | exact isM.g5 (by assumption) | exact isM.g1 (by assumption) | exact isM.g2 (by assumption)) (by first | assumption | exact b01_r | exact bz_r | omega | (constructor <;> omega) | exact hM _ | exact hPo _ | exact hTa _ | exact hRo _) (by first | assumption | exact b01_r | exact bz_r | omega | (constructor <;> omega) | exact hM _ | exact hPo _ | exact hTa _ | exact hRo _) (by first | assumption | exact b01_r | exact bz_r | omega | (constructor <;> omega) | exact hM _ | exact hPo _ | exact hTa _ | exact hRo _) (by omega) ?_
          refine r_callV2 (pc := 71) dX11_closes_71 qX11_does kX11_136 vX11_does (by exact isM.gx (by assumption)) rfl rfl (Nat.le_of_ble_eq_true rfl) (m_does (s2 := m (259 + 14 * t)) hD hPo hcl hB0 hdo) (fun v_71 h_71 q_71 => ?_)
          obtain ⟨rfl, hB_71, S_71⟩ := q_71
          refine r_istore_n (pc := 74) dX11_closes_74 (Nat.le_of_ble_eq_true rfl) ?_
          dsimp only [lsSt, List.set, mLs, mEnt]
          refine r_aload_n (pc := 75) dX11_closes_75 rfl (by first | rfl | exact isRefV_rf _) ?_
          refine r_iload_n (pc := 76) dX11_closes_76 rfl ?_
          refine r_iload (pc := 77) dX11_closes_77 rfl ?_
          refine r_callV2 (pc := 79) dX11_closes_79 qX11_behind kX11_139 vX11_behind (by exact isM.gx (by assumption)) rfl rfl (Nat.le_of_ble_eq_true rfl) (m_behind _ hB_71 hPo (p := p) (E := E) (by omega) hE) (fun v_79 h_79 q_79 => ?_)
          obtain ⟨rfl, rfl⟩ := q_79
          refine rj_iconst (pc := 82) dX11_closes_82 ?_
          refine rj_iadd (pc := 83) dX11_closes_83 ?_
          refine r_istore_n (pc := 84) dX11_closes_84 (Nat.le_of_ble_eq_true rfl) ?_
          dsimp only [lsSt, List.set, mLs, mEnt]
          refine r_goto (pc := 85) (tgt := 48) dX11_closes_85 (by decide) ?_
          rcases hL with ⟨hne, rfl, rfl⟩ | ⟨rfl, hL⟩
          · have hb := behL_r (pool := pool) (E - p) p 0
            refine RUN.mono (L_out (G := G) (l := l) (D := D + 3) hf1 hne ?_) (fun v h' q => q)
            exact (fin h_79 (behL pool (E - p) p 0 + 1) hB_71).mono (fun v h' q => ⟨q.1, q.2.1, S_71.trans q.2.2⟩)
          · have hb := behL_r (pool := pool) (E - p) p 0
            exact (ih m1 (behL pool (E - p) p 0 + 1) _ hB_71 (by omega) hL).mono (fun v h' q => ⟨q.1, q.2.1, S_71.trans q.2.2⟩)
set_option maxHeartbeats 4000000 in
set_option maxRecDepth 100000 in
theorem m_closes {G : mG} {l : Launch} {x s : Nat} {f4 f6 f8 f9 f10 f11 f12 f13 f14 f16 f18 : Int} {kp was pool tape pln pap rwd rw : Nat → Int} (hPo : ∀ q, InR (pool q)) (hs : InR f14) : ∀ (N : Nat) (m m' : Nat → Int) (t : Nat) (h : mH), isM h x (mFs x f4 f6 f8 f9 f10 f11 f12 f13 f14 f16 f18 s) m kp was pool tape pln pap rwd rw → closesR pool f14 N m t m' → RUNM G l (3 * N + 6) mX11_closes [.ref x, .int (J (t : Int))] h (fun v h' => v = none ∧ isM h' x (mFs x f4 f6 f8 f9 f10 f11 f12 f13 f14 f16 f18 s) m' kp was pool tape pln pap rwd rw ∧ Same (mBlk x) h h') := by
  intro N
  induction N with
  | zero => intro m m' t h _ q; exact absurd q id
  | succ N ih =>
    intro m m' t h hB hR
    obtain ⟨⟨hM, k0, k1, k2, k3, k4, k5, k7⟩, ht, hR⟩ := hR
    have hB0 := hB
    rw [show 3 * (N + 1) + 6 = 3 * N + 6 + 3 by omega]
    have e258 : (258 + 14 * (t : Int)).toNat = 258 + 14 * t := by omega
    refine RUNM.of (by decide +kernel) (Nat.le_of_ble_eq_true rfl) ?_
    rcases hR with ⟨hh, rfl⟩ | ⟨hh, p, E, k, f, m2, hp, hE, hp2, hE2, hL, hok2, hf, g2, g4, g5, rfl⟩
    · dsimp only [mFs] at hB
      refine r_aload_n (pc := 0) dX11_closes_0 rfl (by first | rfl | exact isRefV_rf _) ?_
      refine r_iload_n (pc := 1) dX11_closes_1 rfl ?_
      refine r_callV1 (pc := 2) dX11_closes_2 qX11_isHeld kX11_119 vX11_isHeld (by exact isM.gx (by assumption)) rfl rfl (Nat.le_of_ble_eq_true rfl) (by have y := m_isHeld (G := G) (l := l) (3 * N + 7) hB0 hM (a := (t : Int)) (by omega) (by omega); rw [e258] at y; exact y) (fun v_2 h_2 q_2 => ?_)
      obtain ⟨rfl, rfl⟩ := q_2
      refine rj_if_ne (pc := 5) (tgt := 9) dX11_closes_5 (by decide) (by first | assumption | exact b01_r | exact bz_r | omega | (constructor <;> omega) | exact hM _ | exact hPo _ | exact hTa _ | exact hRo _) (fun c_5 => ?_) (fun c_5 => ?_)
      · try simp only [b01_0, bz_0, Classical.not_not] at c_5
        exact absurd c_5 hh
      · try simp only [b01_0, bz_0, Classical.not_not] at c_5
        refine r_return (pc := 8) dX11_closes_8 rfl ?_
        exact ⟨rfl, hB0, Same.refl⟩
    · dsimp only [mFs] at hB
      have q1 : updI m (258 + 14 * t) 1 (262 + 14 * t) = p := (updI_n (by omega)).trans hp
      have q2 : updI m (258 + 14 * t) 1 (263 + 14 * t) = E := (updI_n (by omega)).trans hE
      obtain ⟨hM2, -, -, n2, -, n4, n5, -⟩ := hok2
      refine r_aload_n (pc := 0) dX11_closes_0 rfl (by first | rfl | exact isRefV_rf _) ?_
      refine r_iload_n (pc := 1) dX11_closes_1 rfl ?_
      refine r_callV1 (pc := 2) dX11_closes_2 qX11_isHeld kX11_119 vX11_isHeld (by exact isM.gx (by assumption)) rfl rfl (Nat.le_of_ble_eq_true rfl) (by have y := m_isHeld (G := G) (l := l) (3 * N + 7) hB0 hM (a := (t : Int)) (by omega) (by omega); rw [e258] at y; exact y) (fun v_2 h_2 q_2 => ?_)
      obtain ⟨rfl, rfl⟩ := q_2
      refine rj_if_ne (pc := 5) (tgt := 9) dX11_closes_5 (by decide) (by first | assumption | exact b01_r | exact bz_r | omega | (constructor <;> omega) | exact hM _ | exact hPo _ | exact hTa _ | exact hRo _) (fun c_5 => ?_) (fun c_5 => ?_)
      · try simp only [b01_0, bz_0, Classical.not_not] at c_5
        refine r_aload_n (pc := 9) dX11_closes_9 rfl (by first | rfl | exact isRefV_rf _) ?_
        refine rm_getf (pc := 10) dX11_closes_10 fX11_11 (by assumption) rfl ?_
        refine r_iload_n (pc := 13) dX11_closes_13 rfl ?_
        refine rj_iconst (pc := 14) dX11_closes_14 ?_
        refine rj_iconst (pc := 15) dX11_closes_15 ?_
        refine r_callS3 (pc := 16) dX11_closes_16 qX11_ofThing kX11_54 sX11_ofThing (Nat.le_of_ble_eq_true rfl) (m_ofThing _) (fun v_16 h_16 q_16 => ?_)
        obtain ⟨rfl, rfl⟩ := q_16
        refine rj_iconst (pc := 19) dX11_closes_19 ?_
        first | refine rm_iast0 (pc := 20) (j := 258 + 14 * t) dX11_closes_20 (by assumption) (by first | assumption | exact b01_r | exact bz_r | omega | (constructor <;> omega) | exact hM _ | exact hPo _ | exact hTa _ | exact hRo _) (by first | assumption | exact b01_r | exact bz_r | omega | (constructor <;> omega) | exact hM _ | exact hPo _ | exact hTa _ | exact hRo _) (by first | assumption | exact b01_r | exact bz_r | omega | (constructor <;> omega) | exact hM _ | exact hPo _ | exact hTa _ | exact hRo _) (by omega) (fun h_20 hB_20 hS_20 => ?_)
        refine rj_iconst (pc := 21) dX11_closes_21 ?_
        refine r_istore_n (pc := 22) dX11_closes_22 (Nat.le_of_ble_eq_true rfl) ?_
        dsimp only [lsSt, List.set, mLs, mEnt]
        refine r_aload_n (pc := 23) dX11_closes_23 rfl (by first | rfl | exact isRefV_rf _) ?_
        refine rm_getf (pc := 24) dX11_closes_24 fX11_11 (by assumption) rfl ?_
        refine r_iload_n (pc := 27) dX11_closes_27 rfl ?_
        refine rj_iconst (pc := 28) dX11_closes_28 ?_
        refine rj_iconst (pc := 29) dX11_closes_29 ?_
        refine r_callS3 (pc := 30) dX11_closes_30 qX11_ofThing kX11_54 sX11_ofThing (Nat.le_of_ble_eq_true rfl) (m_ofThing _) (fun v_30 h_30 q_30 => ?_)
        obtain ⟨rfl, rfl⟩ := q_30
        refine rj_iald (pc := 33) (j := 262 + 14 * t) dX11_closes_33 (by first | exact isM.g0 (by assumption) | exact isM.g3 (by assumption) | exact isM.g4 (by assumption) | exact isM.g8 (by assumption) | exact isM.g7 (by assumption) | exact isM.g6 (by assumption) | exact isM.g5 (by assumption) | exact isM.g1 (by assumption) | exact isM.g2 (by assumption)) (by first | assumption | exact b01_r | exact bz_r | omega | (constructor <;> omega) | exact hM _ | exact hPo _ | exact hTa _ | exact hRo _) (by first | assumption | exact b01_r | exact bz_r | omega | (constructor <;> omega) | exact hM _ | exact hPo _ | exact hTa _ | exact hRo _) (by first | assumption | exact b01_r | exact bz_r | omega | (constructor <;> omega) | exact hM _ | exact hPo _ | exact hTa _ | exact hRo _) (by omega) ?_
        rw [q1]
        refine r_istore_n (pc := 34) dX11_closes_34 (Nat.le_of_ble_eq_true rfl) ?_
        dsimp only [lsSt, List.set, mLs, mEnt]
        refine r_aload_n (pc := 35) dX11_closes_35 rfl (by first | rfl | exact isRefV_rf _) ?_
        refine rm_getf (pc := 36) dX11_closes_36 fX11_11 (by assumption) rfl ?_
        refine r_iload_n (pc := 39) dX11_closes_39 rfl ?_
        refine rj_iconst (pc := 40) dX11_closes_40 ?_
        refine rj_iconst (pc := 41) dX11_closes_41 ?_
        refine r_callS3 (pc := 42) dX11_closes_42 qX11_ofThing kX11_54 sX11_ofThing (Nat.le_of_ble_eq_true rfl) (m_ofThing _) (fun v_42 h_42 q_42 => ?_)
        obtain ⟨rfl, rfl⟩ := q_42
        refine rj_iald (pc := 45) (j := 263 + 14 * t) dX11_closes_45 (by first | exact isM.g0 (by assumption) | exact isM.g3 (by assumption) | exact isM.g4 (by assumption) | exact isM.g8 (by assumption) | exact isM.g7 (by assumption) | exact isM.g6 (by assumption) | exact isM.g5 (by assumption) | exact isM.g1 (by assumption) | exact isM.g2 (by assumption)) (by first | assumption | exact b01_r | exact bz_r | omega | (constructor <;> omega) | exact hM _ | exact hPo _ | exact hTa _ | exact hRo _) (by first | assumption | exact b01_r | exact bz_r | omega | (constructor <;> omega) | exact hM _ | exact hPo _ | exact hTa _ | exact hRo _) (by first | assumption | exact b01_r | exact bz_r | omega | (constructor <;> omega) | exact hM _ | exact hPo _ | exact hTa _ | exact hRo _) (by omega) ?_
        rw [q2]
        refine r_istore (pc := 46) dX11_closes_46 (Nat.le_of_ble_eq_true rfl) ?_
        dsimp only [lsSt, List.set, mLs, mEnt]
        exact (L_closes (D := 3 * N + 6) (by omega) hPo hs ih ht hE2 hf ⟨n2.1, g2⟩ ⟨n4.1, g4⟩ ⟨n5.1, g5⟩ k _ p _ hB_20 (by omega) hL).mono (fun v h' q => ⟨q.1, q.2.1, hS_20.trans q.2.2⟩)
      · try simp only [b01_0, bz_0, Classical.not_not] at c_5
        exact absurd hh c_5
end mg_69
section mg_70
/-! ===== the reference: shutting a scope, a task that is over ===== -/
theorem loT_v {m : Nat → Int} {s : Int} : ∀ (n t : Nat) (r : Int × Int), (r.1 = -5 ∨ (0 ≤ r.1 ∧ r.1 < t)) → ((loT m s n t r).1 = -5 ∨ (0 ≤ (loT m s n t r).1 ∧ (loT m s n t r).1 < t + n))
  | 0, t, r, h => by unfold loT; omega
  | n + 1, t, r, h => by
    unfold loT
    have := loT_v (m := m) (s := s) n (t + 1) (if heldB m t = true ∧ m (259 + 14 * t) = s ∧ r.2 ≤ m (260 + 14 * t) then ((t : Int), m (260 + 14 * t)) else r) (by split <;> (try simp only []) <;> omega)
    omega
theorem loS_v {m : Nat → Int} {s : Int} {N : Int} : ∀ (n c : Nat) (r : Int × Int), 1 ≤ c → (r.1 = -5 ∨ (0 ≤ r.1 ∧ r.1 < N) ∨ (101 ≤ r.1 ∧ r.1 < 100 + c)) → ((loS m s n c r).1 = -5 ∨ (0 ≤ (loS m s n c r).1 ∧ (loS m s n c r).1 < N) ∨ (101 ≤ (loS m s n c r).1 ∧ (loS m s n c r).1 < 100 + c + n))
  | 0, c, r, h1, h => by unfold loS; omega
  | n + 1, c, r, h1, h => by
    unfold loS
    have := loS_v (m := m) (s := s) (N := N) n (c + 1) (if openB m c = true ∧ m (19 + 4 * c) = s ∧ r.2 ≤ m (20 + 4 * c) then (100 + (c : Int), m (20 + 4 * c)) else r) (by omega) (by split <;> (try simp only []) <;> omega)
    omega
theorem lastM_v (m : Nat → Int) (s : Int) (N C : Nat) (hC : 1 ≤ C) : lastM m s N C = -5 ∨ (0 ≤ lastM m s N C ∧ lastM m s N C < N) ∨ (101 ≤ lastM m s N C ∧ lastM m s N C < 100 + C) := by
  have h := loS_v (m := m) (s := s) (N := (N : Int)) (C - 1) 1 (loT m s N 0 (-5, -1)) (Nat.le_refl _) (by have := loT_v (m := m) (s := s) N 0 (-5, -1) (Or.inl rfl); omega)
  unfold lastM
  omega
def lastI (m : Nat → Int) (s : Int) : Int := lastM m s (m 1).toNat (m 0).toNat
theorem lastI_r {m : Nat → Int} (hok : mOk m) (h1 : 1 ≤ m 0) (s : Int) : lastI m s = -5 ∨ (0 ≤ lastI m s ∧ lastI m s < m 1) ∨ (101 ≤ lastI m s ∧ lastI m s < 100 + m 0) := by
  obtain ⟨hM, k0, k1, k2, k3, k4, k5, k7⟩ := hok
  have := lastM_v m s (m 1).toNat (m 0).toNat (by omega)
  unfold lastI
  omega
/-- the loop of shuts: cl closes a thing, sh shuts a scope -/
def shLoopR (cl : (Nat → Int) → Nat → (Nat → Int) → Prop) (sh : (Nat → Int) → Int → (Nat → Int) → Prop) (s : Int) : Nat → (Nat → Int) → (Nat → Int) → Prop
  | 0, m, m' => mOk m ∧ 1 ≤ m 0 ∧ lastI m s < 0 ∧ m' = m
  | k + 1, m, m' => mOk m ∧ 1 ≤ m 0 ∧ ((lastI m s < 0 ∧ m' = m) ∨ ((0 ≤ lastI m s ∧ lastI m s < 100) ∧ ∃ m1, cl m (lastI m s).toNat m1 ∧ shLoopR cl sh s k m1 m') ∨ (100 ≤ lastI m s ∧ ∃ m1, sh m (lastI m s - 100) m1 ∧ shLoopR cl sh s k m1 m'))
theorem shLoopR_ok {cl : (Nat → Int) → Nat → (Nat → Int) → Prop} {sh : (Nat → Int) → Int → (Nat → Int) → Prop} {s : Int} : ∀ (k : Nat) (m m' : Nat → Int), shLoopR cl sh s k m m' → mOk m ∧ 1 ≤ m 0
  | 0, _, _, h => ⟨h.1, h.2.1⟩
  | _ + 1, _, _, h => ⟨h.1, h.2.1⟩
/-- a scope is shut; scopes in it go at most so deep -/
def shutsR (pool : Nat → Int) (sink : Int) : Nat → (Nat → Int) → Int → (Nat → Int) → Prop
  | 0, _, _, _ => False
  | n + 1, m, s, m' => mOk m ∧ InR s ∧ ((¬ openP m s ∧ m' = m) ∨ (openP m s ∧ ∃ k m2, shLoopR (closesR pool sink 91) (shutsR pool sink n) s k (updI m (18 + 4 * s).toNat 1) m2 ∧ m' = updI m2 (18 + 4 * s).toNat (if s = 0 then 0 else 2)))
set_option maxHeartbeats 4000000 in
set_option maxRecDepth 100000 in
theorem L_shuts {G : mG} {l : Launch} {D : Nat} (hD : 280 ≤ D) {x s : Nat} {f4 f6 f8 f9 f10 f11 f12 f13 f14 f16 f18 : Int} {kp was pool tape pln pap rwd rw : Nat → Int} {cl : (Nat → Int) → Nat → (Nat → Int) → Prop} {sh : (Nat → Int) → Int → (Nat → Int) → Prop} (hcl : ∀ (m1 m2 : Nat → Int) (t : Nat) (h : mH), isM h x (mFs x f4 f6 f8 f9 f10 f11 f12 f13 f14 f16 f18 s) m1 kp was pool tape pln pap rwd rw → cl m1 t m2 → RUNM G l D mX11_closes [.ref x, .int (J (t : Int))] h (fun v h' => v = none ∧ isM h' x (mFs x f4 f6 f8 f9 f10 f11 f12 f13 f14 f16 f18 s) m2 kp was pool tape pln pap rwd rw ∧ Same (mBlk x) h h')) (hsh : ∀ (m1 m2 : Nat → Int) (e : Int) (h : mH), isM h x (mFs x f4 f6 f8 f9 f10 f11 f12 f13 f14 f16 f18 s) m1 kp was pool tape pln pap rwd rw → sh m1 e m2 → RUNM G l D mX11_shuts [.ref x, .int (J e)] h (fun v h' => v = none ∧ isM h' x (mFs x f4 f6 f8 f9 f10 f11 f12 f13 f14 f16 f18 s) m2 kp was pool tape pln pap rwd rw ∧ Same (mBlk x) h h')) {a : Int} (ha : 0 ≤ a ∧ a ≤ 59) {m2 : Nat → Int} : ∀ (k : Nat) (m : Nat → Int) (h : mH), isM h x (mFs x f4 f6 f8 f9 f10 f11 f12 f13 f14 f16 f18 s) m kp was pool tape pln pap rwd rw → shLoopR cl sh a k m m2 → RUN G l (D + 1) mX11_shuts 26 [some (.ref x), some (.int (J a)), some (.int (J (lastI m a)))] [] h (fun v h' => v = none ∧ isM h' x (mFs x f4 f6 f8 f9 f10 f11 f12 f13 f14 f16 f18 s) (updI m2 (18 + 4 * a).toNat (if a = 0 then 0 else 2)) kp was pool tape pln pap rwd rw ∧ Same (mBlk x) h h') := by
  have fin : ∀ (h : mH), isM h x (mFs x f4 f6 f8 f9 f10 f11 f12 f13 f14 f16 f18 s) m2 kp was pool tape pln pap rwd rw → RUN G l (D + 1) mX11_shuts 61 [some (.ref x), some (.int (J a)), some (.int (J (lastI m2 a)))] [] h (fun v h' => v = none ∧ isM h' x (mFs x f4 f6 f8 f9 f10 f11 f12 f13 f14 f16 f18 s) (updI m2 (18 + 4 * a).toNat (if a = 0 then 0 else 2)) kp was pool tape pln pap rwd rw ∧ Same (mBlk x) h h') := by
    intro h hB
    have hB0 := hB
    dsimp only [mFs] at hB
    refine r_aload_n (pc := 61) dX11_shuts_61 rfl (by first | rfl | exact isRefV_rf _) ?_
    refine rm_getf (pc := 62) dX11_shuts_62 fX11_11 (by assumption) rfl ?_
    refine r_iload_n (pc := 65) dX11_shuts_65 rfl ?_
    refine rj_iconst (pc := 66) dX11_shuts_66 ?_
    refine r_callS2 (pc := 67) dX11_shuts_67 qX11_ofScope kX11_42 sX11_ofScope (Nat.le_of_ble_eq_true rfl) (m_ofScope _) (fun v_67 h_67 q_67 => ?_)
    obtain ⟨rfl, rfl⟩ := q_67
    refine r_iload_n (pc := 70) dX11_shuts_70 rfl ?_
    refine rj_if_ne (pc := 71) (tgt := 78) dX11_shuts_71 (by decide) (by first | assumption | exact b01_r | exact bz_r | omega | (constructor <;> omega) | exact hM _ | exact hPo _ | exact hTa _ | exact hRo _) (fun c_71 => ?_) (fun c_71 => ?_)
    · try simp only [b01_0, bz_0, Classical.not_not] at c_71
      refine rj_iconst (pc := 78) dX11_shuts_78 ?_
      rw [show (J 2) = J (if a = 0 then 0 else 2) by rw [if_neg c_71]]
      first | refine rm_iast0 (pc := 79) (j := (18 + 4 * a).toNat) dX11_shuts_79 (by assumption) (by first | assumption | exact b01_r | exact bz_r | omega | (constructor <;> omega) | exact hM _ | exact hPo _ | exact hTa _ | exact hRo _) (by first | assumption | exact b01_r | exact bz_r | omega | (constructor <;> omega) | exact hM _ | exact hPo _ | exact hTa _ | exact hRo _) (by first | assumption | exact b01_r | exact bz_r | omega | (constructor <;> omega) | exact hM _ | exact hPo _ | exact hTa _ | exact hRo _) (by omega) (fun h_79 hB_79 hS_79 => ?_)
      refine r_return (pc := 80) dX11_shuts_80 rfl ?_
      exact ⟨rfl, hB_79, hS_79⟩
    · try simp only [b01_0, bz_0, Classical.not_not] at c_71
      refine rj_iconst (pc := 74) dX11_shuts_74 ?_
      refine r_goto (pc := 75) (tgt := 79) dX11_shuts_75 (by decide) ?_
      rw [show (J 0) = J (if a = 0 then 0 else 2) by rw [if_pos c_71]]
      first | refine rm_iast0 (pc := 79) (j := (18 + 4 * a).toNat) dX11_shuts_79 (by assumption) (by first | assumption | exact b01_r | exact bz_r | omega | (constructor <;> omega) | exact hM _ | exact hPo _ | exact hTa _ | exact hRo _) (by first | assumption | exact b01_r | exact bz_r | omega | (constructor <;> omega) | exact hM _ | exact hPo _ | exact hTa _ | exact hRo _) (by first | assumption | exact b01_r | exact bz_r | omega | (constructor <;> omega) | exact hM _ | exact hPo _ | exact hTa _ | exact hRo _) (by omega) (fun h_79 hB_79 hS_79 => ?_)
      refine r_return (pc := 80) dX11_shuts_80 rfl ?_
      exact ⟨rfl, hB_79, hS_79⟩
  intro k
  induction k with
  | zero =>
    intro m h hB hL
    obtain ⟨hok, h1, hlt, rfl⟩ := hL
    have hr := lastI_r hok h1 a
    have hB0 := hB
    dsimp only [mFs] at hB
    refine r_iload_n (pc := 26) dX11_shuts_26 rfl ?_
    refine rj_if_lt (pc := 27) (tgt := 61) dX11_shuts_27 (by decide) (by first | assumption | exact b01_r | exact bz_r | omega | (constructor <;> omega) | exact hM _ | exact hPo _ | exact hTa _ | exact hRo _) (fun c_27 => ?_) (fun c_27 => ?_)
    · exact fin h hB0
    · exfalso; omega
  | succ k ih =>
    intro m h hB hL
    obtain ⟨hok, h1, hL⟩ := hL
    have hr := lastI_r hok h1 a
    obtain ⟨hM, k0, k1, k2, k3, k4, k5, k7⟩ := hok
    have hB0 := hB
    rcases hL with ⟨hlt, rfl⟩ | ⟨hlt, m1, hc, hL⟩ | ⟨hlt, m1, hc, hL⟩
    · dsimp only [mFs] at hB
      refine r_iload_n (pc := 26) dX11_shuts_26 rfl ?_
      refine rj_if_lt (pc := 27) (tgt := 61) dX11_shuts_27 (by decide) (by first | assumption | exact b01_r | exact bz_r | omega | (constructor <;> omega) | exact hM _ | exact hPo _ | exact hTa _ | exact hRo _) (fun c_27 => ?_) (fun c_27 => ?_)
      · exact fin h hB0
      · exfalso; omega
    · dsimp only [mFs] at hB
      obtain ⟨hok1, h11⟩ := shLoopR_ok k m1 m2 hL
      obtain ⟨hM1, j0, j1, -⟩ := id hok1
      refine r_iload_n (pc := 26) dX11_shuts_26 rfl ?_
      refine rj_if_lt (pc := 27) (tgt := 61) dX11_shuts_27 (by decide) (by first | assumption | exact b01_r | exact bz_r | omega | (constructor <;> omega) | exact hM _ | exact hPo _ | exact hTa _ | exact hRo _) (fun c_27 => ?_) (fun c_27 => ?_)
      · exfalso; omega
      · refine r_iload_n (pc := 30) dX11_shuts_30 rfl ?_
        refine rj_bipush (pc := 31) dX11_shuts_31 (by decide +kernel) ?_
        refine rj_icmp_ge (pc := 33) (tgt := 44) dX11_shuts_33 (by decide) (by first | assumption | exact b01_r | exact bz_r | omega | (constructor <;> omega) | exact hM _ | exact hPo _ | exact hTa _ | exact hRo _) (by first | assumption | exact b01_r | exact bz_r | omega | (constructor <;> omega) | exact hM _ | exact hPo _ | exact hTa _ | exact hRo _) (fun c_33 => ?_) (fun c_33 => ?_)
        · exfalso; omega
        · refine r_aload_n (pc := 36) dX11_shuts_36 rfl (by first | rfl | exact isRefV_rf _) ?_
          refine r_iload_n (pc := 37) dX11_shuts_37 rfl ?_
          refine r_callV1 (pc := 38) dX11_shuts_38 qX11_closes kX11_153 vX11_closes (by exact isM.gx (by assumption)) rfl rfl (Nat.le_of_ble_eq_true rfl) (by have y := hcl m m1 (lastI m a).toNat _ hB0 hc; rw [show (((lastI m a).toNat : Nat) : Int) = lastI m a by omega] at y; exact y) (fun v_38 h_38 q_38 => ?_)
          obtain ⟨rfl, hB_38, S_38⟩ := q_38
          refine r_goto (pc := 41) (tgt := 52) dX11_shuts_41 (by decide) ?_
          refine r_aload_n (pc := 52) dX11_shuts_52 rfl (by first | rfl | exact isRefV_rf _) ?_
          refine r_iload_n (pc := 53) dX11_shuts_53 rfl ?_
          refine r_callV1 (pc := 54) dX11_shuts_54 qX11_lastOf kX11_149 vX11_lastOf (by exact isM.gx (by assumption)) rfl rfl (Nat.le_of_ble_eq_true rfl) (by have y := m_lastOf (G := G) (l := l) (D - 3) hB_38 hM1 (N := (m1 1).toNat) (C := (m1 0).toNat) (by omega) (by omega) (by omega) (by omega) (by omega) (a := a) ⟨by omega, by omega⟩; exact y.deeper (by omega)) (fun v_54 h_54 q_54 => ?_)
          obtain ⟨rfl, rfl⟩ := q_54
          refine r_istore_n (pc := 57) dX11_shuts_57 (Nat.le_of_ble_eq_true rfl) ?_
          dsimp only [lsSt, List.set, mLs, mEnt]
          refine r_goto (pc := 58) (tgt := 26) dX11_shuts_58 (by decide) ?_
          exact (ih m1 _ hB_38 hL).mono (fun v h' q => ⟨q.1, q.2.1, S_38.trans q.2.2⟩)
    · dsimp only [mFs] at hB
      obtain ⟨hok1, h11⟩ := shLoopR_ok k m1 m2 hL
      obtain ⟨hM1, j0, j1, -⟩ := id hok1
      refine r_iload_n (pc := 26) dX11_shuts_26 rfl ?_
      refine rj_if_lt (pc := 27) (tgt := 61) dX11_shuts_27 (by decide) (by first | assumption | exact b01_r | exact bz_r | omega | (constructor <;> omega) | exact hM _ | exact hPo _ | exact hTa _ | exact hRo _) (fun c_27 => ?_) (fun c_27 => ?_)
      · exfalso; omega
      · refine r_iload_n (pc := 30) dX11_shuts_30 rfl ?_
        refine rj_bipush (pc := 31) dX11_shuts_31 (by decide +kernel) ?_
        refine rj_icmp_ge (pc := 33) (tgt := 44) dX11_shuts_33 (by decide) (by first | assumption | exact b01_r | exact bz_r | omega | (constructor <;> omega) | exact hM _ | exact hPo _ | exact hTa _ | exact hRo _) (by first | assumption | exact b01_r | exact bz_r | omega | (constructor <;> omega) | exact hM _ | exact hPo _ | exact hTa _ | exact hRo _) (fun c_33 => ?_) (fun c_33 => ?_)
        · refine r_aload_n (pc := 44) dX11_shuts_44 rfl (by first | rfl | exact isRefV_rf _) ?_
          refine r_iload_n (pc := 45) dX11_shuts_45 rfl ?_
          refine rj_bipush (pc := 46) dX11_shuts_46 (by decide +kernel) ?_
          refine rj_isub (pc := 48) dX11_shuts_48 ?_
          refine r_callV1 (pc := 49) dX11_shuts_49 qX11_shuts kX11_157 vX11_shuts (by exact isM.gx (by assumption)) rfl rfl (Nat.le_of_ble_eq_true rfl) (hsh m m1 (lastI m a - 100) _ hB0 hc) (fun v_49 h_49 q_49 => ?_)
          obtain ⟨rfl, hB_49, S_49⟩ := q_49
          refine r_aload_n (pc := 52) dX11_shuts_52 rfl (by first | rfl | exact isRefV_rf _) ?_
          refine r_iload_n (pc := 53) dX11_shuts_53 rfl ?_
          refine r_callV1 (pc := 54) dX11_shuts_54 qX11_lastOf kX11_149 vX11_lastOf (by exact isM.gx (by assumption)) rfl rfl (Nat.le_of_ble_eq_true rfl) (by have y := m_lastOf (G := G) (l := l) (D - 3) hB_49 hM1 (N := (m1 1).toNat) (C := (m1 0).toNat) (by omega) (by omega) (by omega) (by omega) (by omega) (a := a) ⟨by omega, by omega⟩; exact y.deeper (by omega)) (fun v_54 h_54 q_54 => ?_)
          obtain ⟨rfl, rfl⟩ := q_54
          refine r_istore_n (pc := 57) dX11_shuts_57 (Nat.le_of_ble_eq_true rfl) ?_
          dsimp only [lsSt, List.set, mLs, mEnt]
          refine r_goto (pc := 58) (tgt := 26) dX11_shuts_58 (by decide) ?_
          exact (ih m1 _ hB_49 hL).mono (fun v h' q => ⟨q.1, q.2.1, S_49.trans q.2.2⟩)
        · exfalso; omega
set_option maxHeartbeats 4000000 in
set_option maxRecDepth 100000 in
theorem m_shuts {G : mG} {l : Launch} {x s : Nat} {f4 f6 f8 f9 f10 f11 f12 f13 f14 f16 f18 : Int} {kp was pool tape pln pap rwd rw : Nat → Int} (hPo : ∀ q, InR (pool q)) (hs : InR f14) : ∀ (N : Nat) (m m' : Nat → Int) (a : Int) (h : mH), isM h x (mFs x f4 f6 f8 f9 f10 f11 f12 f13 f14 f16 f18 s) m kp was pool tape pln pap rwd rw → shutsR pool f14 N m a m' → RUNM G l (280 + N) mX11_shuts [.ref x, .int (J a)] h (fun v h' => v = none ∧ isM h' x (mFs x f4 f6 f8 f9 f10 f11 f12 f13 f14 f16 f18 s) m' kp was pool tape pln pap rwd rw ∧ Same (mBlk x) h h') := by
  intro N
  induction N with
  | zero => intro m m' a h _ q; exact absurd q id
  | succ N ih =>
    intro m m' a h hB hR
    obtain ⟨⟨hM, k0, k1, k2, k3, k4, k5, k7⟩, ha, hR⟩ := hR
    have hB0 := hB
    rw [show 280 + (N + 1) = 280 + N + 1 by omega]
    refine RUNM.of (by decide +kernel) (Nat.le_of_ble_eq_true rfl) ?_
    rcases hR with ⟨hh, rfl⟩ | ⟨hh, k, m2, hL, rfl⟩
    · dsimp only [mFs] at hB
      refine r_aload_n (pc := 0) dX11_shuts_0 rfl (by first | rfl | exact isRefV_rf _) ?_
      refine r_iload_n (pc := 1) dX11_shuts_1 rfl ?_
      refine r_callV1 (pc := 2) dX11_shuts_2 qX11_isOpen kX11_146 vX11_isOpen (by exact isM.gx (by assumption)) rfl rfl (Nat.le_of_ble_eq_true rfl) (by have y := m_isOpen (G := G) (l := l) (278 + N) hB0 hM k0 (a := a) ha; exact y.deeper (by omega)) (fun v_2 h_2 q_2 => ?_)
      obtain ⟨rfl, rfl⟩ := q_2
      refine rj_if_ne (pc := 5) (tgt := 9) dX11_shuts_5 (by decide) (by first | assumption | exact b01_r | exact bz_r | omega | (constructor <;> omega) | exact hM _ | exact hPo _ | exact hTa _ | exact hRo _) (fun c_5 => ?_) (fun c_5 => ?_)
      · try simp only [b01_0, bz_0, Classical.not_not] at c_5
        exact absurd c_5 hh
      · try simp only [b01_0, bz_0, Classical.not_not] at c_5
        refine r_return (pc := 8) dX11_shuts_8 rfl ?_
        exact ⟨rfl, hB0, Same.refl⟩
    · dsimp only [mFs] at hB
      obtain ⟨hok1, h11⟩ := shLoopR_ok k _ m2 hL
      obtain ⟨hM1, j0, j1, -⟩ := id hok1
      refine r_aload_n (pc := 0) dX11_shuts_0 rfl (by first | rfl | exact isRefV_rf _) ?_
      refine r_iload_n (pc := 1) dX11_shuts_1 rfl ?_
      refine r_callV1 (pc := 2) dX11_shuts_2 qX11_isOpen kX11_146 vX11_isOpen (by exact isM.gx (by assumption)) rfl rfl (Nat.le_of_ble_eq_true rfl) (by have y := m_isOpen (G := G) (l := l) (278 + N) hB0 hM k0 (a := a) ha; exact y.deeper (by omega)) (fun v_2 h_2 q_2 => ?_)
      obtain ⟨rfl, rfl⟩ := q_2
      refine rj_if_ne (pc := 5) (tgt := 9) dX11_shuts_5 (by decide) (by first | assumption | exact b01_r | exact bz_r | omega | (constructor <;> omega) | exact hM _ | exact hPo _ | exact hTa _ | exact hRo _) (fun c_5 => ?_) (fun c_5 => ?_)
      · try simp only [b01_0, bz_0, Classical.not_not] at c_5
        refine r_aload_n (pc := 9) dX11_shuts_9 rfl (by first | rfl | exact isRefV_rf _) ?_
        refine rm_getf (pc := 10) dX11_shuts_10 fX11_11 (by assumption) rfl ?_
        refine r_iload_n (pc := 13) dX11_shuts_13 rfl ?_
        refine rj_iconst (pc := 14) dX11_shuts_14 ?_
        refine r_callS2 (pc := 15) dX11_shuts_15 qX11_ofScope kX11_42 sX11_ofScope (Nat.le_of_ble_eq_true rfl) (m_ofScope _) (fun v_15 h_15 q_15 => ?_)
        obtain ⟨rfl, rfl⟩ := q_15
        refine rj_iconst (pc := 18) dX11_shuts_18 ?_
        first | refine rm_iast0 (pc := 19) (j := (18 + 4 * a).toNat) dX11_shuts_19 (by assumption) (by first | assumption | exact b01_r | exact bz_r | omega | (constructor <;> omega) | exact hM _ | exact hPo _ | exact hTa _ | exact hRo _) (by first | assumption | exact b01_r | exact bz_r | omega | (constructor <;> omega) | exact hM _ | exact hPo _ | exact hTa _ | exact hRo _) (by first | assumption | exact b01_r | exact bz_r | omega | (constructor <;> omega) | exact hM _ | exact hPo _ | exact hTa _ | exact hRo _) (by omega) (fun h_19 hB_19 hS_19 => ?_)
        refine r_aload_n (pc := 20) dX11_shuts_20 rfl (by first | rfl | exact isRefV_rf _) ?_
        refine r_iload_n (pc := 21) dX11_shuts_21 rfl ?_
        refine r_callV1 (pc := 22) dX11_shuts_22 qX11_lastOf kX11_149 vX11_lastOf (by exact isM.gx (by assumption)) rfl rfl (Nat.le_of_ble_eq_true rfl) (by have y := m_lastOf (G := G) (l := l) (277 + N) hB_19 hM1 (N := (updI m (18 + 4 * a).toNat 1 1).toNat) (C := (updI m (18 + 4 * a).toNat 1 0).toNat) (by omega) (by omega) (by omega) (by omega) (by omega) (a := a) ha; exact y.deeper (by omega)) (fun v_22 h_22 q_22 => ?_)
        obtain ⟨rfl, rfl⟩ := q_22
        refine r_istore_n (pc := 25) dX11_shuts_25 (Nat.le_of_ble_eq_true rfl) ?_
        dsimp only [lsSt, List.set, mLs, mEnt]
        exact (L_shuts (D := 280 + N) (by omega) (fun m1 m2 t h z1 z2 => (m_closes hPo hs 91 m1 m2 t h z1 z2).deeper (by omega)) ih ⟨by omega, by omega⟩ k _ _ hB_19 hL).mono (fun v h' q => ⟨q.1, q.2.1, hS_19.trans q.2.2⟩)
      · try simp only [b01_0, bz_0, Classical.not_not] at c_5
        exact absurd hh c_5
def overR (sh : (Nat → Int) → Int → (Nat → Int) → Prop) (t : Nat) : Nat → (Nat → Int) → (Nat → Int) → Prop
  | 0, m, m' => m' = m
  | n + 1, m, m' => (∀ q, InR (m q)) ∧ ∃ m1, sh m (m (1620 + 72 * t + n)) m1 ∧ overR sh t n m1 m'
def isOverR (sh : (Nat → Int) → Int → (Nat → Int) → Prop) (t : Nat) (st : Int) (m m' : Nat → Int) : Prop := t ≤ 9 ∧ ∃ n : Nat, n ≤ 60 ∧ m (1619 + 72 * t) = n ∧ overR sh t n (updI m (1610 + 72 * t) st) m'
set_option maxHeartbeats 4000000 in
set_option maxRecDepth 100000 in
theorem L_isOver {G : mG} {l : Launch} {D : Nat} (hD : 280 ≤ D) {x s : Nat} {f4 f6 f8 f9 f10 f11 f12 f13 f14 f16 f18 : Int} {kp was pool tape pln pap rwd rw : Nat → Int} {sh : (Nat → Int) → Int → (Nat → Int) → Prop} (hsh : ∀ (m1 m2 : Nat → Int) (e : Int) (h : mH), isM h x (mFs x f4 f6 f8 f9 f10 f11 f12 f13 f14 f16 f18 s) m1 kp was pool tape pln pap rwd rw → sh m1 e m2 → RUNM G l D mX11_shuts [.ref x, .int (J e)] h (fun v h' => v = none ∧ isM h' x (mFs x f4 f6 f8 f9 f10 f11 f12 f13 f14 f16 f18 s) m2 kp was pool tape pln pap rwd rw ∧ Same (mBlk x) h h')) {t : Nat} (ht : t ≤ 9) {st : Int} {m' : Nat → Int} : ∀ (n : Nat) (m : Nat → Int) (h : mH), n ≤ 60 → isM h x (mFs x f4 f6 f8 f9 f10 f11 f12 f13 f14 f16 f18 s) m kp was pool tape pln pap rwd rw → overR sh t n m m' → RUN G l (D + 1) mX11_isOver 27 [some (.ref x), some (.int (J (t : Int))), some (.int (J st)), some (.int (J ((n : Int) - 1)))] [] h (fun v h' => v = none ∧ isM h' x (mFs x f4 f6 f8 f9 f10 f11 f12 f13 f14 f16 f18 s) m' kp was pool tape pln pap rwd rw ∧ Same (mBlk x) h h') := by
  intro n
  induction n with
  | zero =>
    intro m h hn hB hR
    obtain rfl := hR
    have hB0 := hB
    refine r_iload_n (pc := 27) dX11_isOver_27 rfl ?_
    refine rj_if_lt (pc := 28) (tgt := 53) dX11_isOver_28 (by decide) (by first | assumption | exact b01_r | exact bz_r | omega | (constructor <;> omega) | exact hM _ | exact hPo _ | exact hTa _ | exact hRo _) (fun c_28 => ?_) (fun c_28 => ?_)
    · refine r_return (pc := 53) dX11_isOver_53 rfl ?_
      exact ⟨rfl, hB0, Same.refl⟩
    · exfalso; omega
  | succ n ih =>
    intro m h hn hB hR
    obtain ⟨hM, m1, hs, hR⟩ := hR
    have hB0 := hB
    dsimp only [mFs] at hB
    refine r_iload_n (pc := 27) dX11_isOver_27 rfl ?_
    refine rj_if_lt (pc := 28) (tgt := 53) dX11_isOver_28 (by decide) (by first | assumption | exact b01_r | exact bz_r | omega | (constructor <;> omega) | exact hM _ | exact hPo _ | exact hTa _ | exact hRo _) (fun c_28 => ?_) (fun c_28 => ?_)
    · exfalso; omega
    · refine r_aload_n (pc := 31) dX11_isOver_31 rfl (by first | rfl | exact isRefV_rf _) ?_
      refine r_aload_n (pc := 32) dX11_isOver_32 rfl (by first | rfl | exact isRefV_rf _) ?_
      refine rm_getf (pc := 33) dX11_isOver_33 fX11_11 (by assumption) rfl ?_
      refine r_iload_n (pc := 36) dX11_isOver_36 rfl ?_
      refine rj_bipush (pc := 37) dX11_isOver_37 (by decide +kernel) ?_
      refine r_iload_n (pc := 39) dX11_isOver_39 rfl ?_
      refine r_callS3 (pc := 40) dX11_isOver_40 qX11_ofTask kX11_58 sX11_ofTask (Nat.le_of_ble_eq_true rfl) (m_ofTask _) (fun v_40 h_40 q_40 => ?_)
      obtain ⟨rfl, rfl⟩ := q_40
      refine rj_iald (pc := 43) (j := 1620 + 72 * t + n) dX11_isOver_43 (by first | exact isM.g0 (by assumption) | exact isM.g3 (by assumption) | exact isM.g4 (by assumption) | exact isM.g8 (by assumption) | exact isM.g7 (by assumption) | exact isM.g6 (by assumption) | exact isM.g5 (by assumption) | exact isM.g1 (by assumption) | exact isM.g2 (by assumption)) (by first | assumption | exact b01_r | exact bz_r | omega | (constructor <;> omega) | exact hM _ | exact hPo _ | exact hTa _ | exact hRo _) (by first | assumption | exact b01_r | exact bz_r | omega | (constructor <;> omega) | exact hM _ | exact hPo _ | exact hTa _ | exact hRo _) (by first | assumption | exact b01_r | exact bz_r | omega | (constructor <;> omega) | exact hM _ | exact hPo _ | exact hTa _ | exact hRo _) (by omega) ?_
      refine r_callV1 (pc := 44) dX11_isOver_44 qX11_shuts kX11_157 vX11_shuts (by exact isM.gx (by assumption)) rfl rfl (Nat.le_of_ble_eq_true rfl) (hsh m m1 _ _ hB0 hs) (fun v_44 h_44 q_44 => ?_)
      obtain ⟨rfl, hB_44, S_44⟩ := q_44
      refine rj_iinc (pc := 47) dX11_isOver_47 (Nat.le_of_ble_eq_true rfl) rfl ?_
      dsimp only [lsSt, List.set, mLs, mEnt]
      refine r_goto (pc := 50) (tgt := 27) dX11_isOver_50 (by decide) ?_
      rw [show ((n + 1 : Nat) : Int) - 1 + -1 = (n : Int) - 1 by omega]
      exact (ih m1 _ (by omega) hB_44 hR).mono (fun v h' q => ⟨q.1, q.2.1, S_44.trans q.2.2⟩)
set_option maxHeartbeats 4000000 in
set_option maxRecDepth 100000 in
theorem m_isOver {G : mG} {l : Launch} {D : Nat} (hD : 280 ≤ D) {x s : Nat} {f4 f6 f8 f9 f10 f11 f12 f13 f14 f16 f18 : Int} {kp was pool tape pln pap rwd rw : Nat → Int} {sh : (Nat → Int) → Int → (Nat → Int) → Prop} (hsh : ∀ (m1 m2 : Nat → Int) (e : Int) (h : mH), isM h x (mFs x f4 f6 f8 f9 f10 f11 f12 f13 f14 f16 f18 s) m1 kp was pool tape pln pap rwd rw → sh m1 e m2 → RUNM G l D mX11_shuts [.ref x, .int (J e)] h (fun v h' => v = none ∧ isM h' x (mFs x f4 f6 f8 f9 f10 f11 f12 f13 f14 f16 f18 s) m2 kp was pool tape pln pap rwd rw ∧ Same (mBlk x) h h')) {m m' : Nat → Int} {t : Nat} {st : Int} {h : mH} (hB : isM h x (mFs x f4 f6 f8 f9 f10 f11 f12 f13 f14 f16 f18 s) m kp was pool tape pln pap rwd rw) (hR : isOverR sh t st m m') : RUNM G l (D + 1) mX11_isOver [.ref x, .int (J (t : Int)), .int (J st)] h (fun v h' => v = none ∧ isM h' x (mFs x f4 f6 f8 f9 f10 f11 f12 f13 f14 f16 f18 s) m' kp was pool tape pln pap rwd rw ∧ Same (mBlk x) h h') := by
  obtain ⟨ht, n, hn, hc, hR⟩ := hR
  have hB0 := hB
  have e1 : updI m (1610 + 72 * t) st (1619 + 72 * t) = n := (updI_n (by omega)).trans hc
  dsimp only [mFs] at hB
  refine RUNM.of (by decide +kernel) (Nat.le_of_ble_eq_true rfl) ?_
  refine r_aload_n (pc := 0) dX11_isOver_0 rfl (by first | rfl | exact isRefV_rf _) ?_
  refine rm_getf (pc := 1) dX11_isOver_1 fX11_11 (by assumption) rfl ?_
  refine r_iload_n (pc := 4) dX11_isOver_4 rfl ?_
  refine rj_iconst (pc := 5) dX11_isOver_5 ?_
  refine rj_iconst (pc := 6) dX11_isOver_6 ?_
  refine r_callS3 (pc := 7) dX11_isOver_7 qX11_ofTask kX11_58 sX11_ofTask (Nat.le_of_ble_eq_true rfl) (m_ofTask _) (fun v_7 h_7 q_7 => ?_)
  obtain ⟨rfl, rfl⟩ := q_7
  refine r_iload_n (pc := 10) dX11_isOver_10 rfl ?_
  first | refine rm_iast0 (pc := 11) (j := 1610 + 72 * t) dX11_isOver_11 (by assumption) (by first | assumption | exact b01_r | exact bz_r | omega | (constructor <;> omega) | exact hM _ | exact hPo _ | exact hTa _ | exact hRo _) (by first | assumption | exact b01_r | exact bz_r | omega | (constructor <;> omega) | exact hM _ | exact hPo _ | exact hTa _ | exact hRo _) (by first | assumption | exact b01_r | exact bz_r | omega | (constructor <;> omega) | exact hM _ | exact hPo _ | exact hTa _ | exact hRo _) (by omega) (fun h_11 hB_11 hS_11 => ?_)
  refine r_aload_n (pc := 12) dX11_isOver_12 rfl (by first | rfl | exact isRefV_rf _) ?_
  refine rm_getf (pc := 13) dX11_isOver_13 fX11_11 (by assumption) rfl ?_
  refine r_iload_n (pc := 16) dX11_isOver_16 rfl ?_
  refine rj_bipush (pc := 17) dX11_isOver_17 (by decide +kernel) ?_
  refine rj_iconst (pc := 19) dX11_isOver_19 ?_
  refine r_callS3 (pc := 20) dX11_isOver_20 qX11_ofTask kX11_58 sX11_ofTask (Nat.le_of_ble_eq_true rfl) (m_ofTask _) (fun v_20 h_20 q_20 => ?_)
  obtain ⟨rfl, rfl⟩ := q_20
  refine rj_iald (pc := 23) (j := 1619 + 72 * t) dX11_isOver_23 (by first | exact isM.g0 (by assumption) | exact isM.g3 (by assumption) | exact isM.g4 (by assumption) | exact isM.g8 (by assumption) | exact isM.g7 (by assumption) | exact isM.g6 (by assumption) | exact isM.g5 (by assumption) | exact isM.g1 (by assumption) | exact isM.g2 (by assumption)) (by first | assumption | exact b01_r | exact bz_r | omega | (constructor <;> omega) | exact hM _ | exact hPo _ | exact hTa _ | exact hRo _) (by first | assumption | exact b01_r | exact bz_r | omega | (constructor <;> omega) | exact hM _ | exact hPo _ | exact hTa _ | exact hRo _) (by first | assumption | exact b01_r | exact bz_r | omega | (constructor <;> omega) | exact hM _ | exact hPo _ | exact hTa _ | exact hRo _) (by omega) ?_
  rw [e1]
  refine rj_iconst (pc := 24) dX11_isOver_24 ?_
  refine rj_isub (pc := 25) dX11_isOver_25 ?_
  refine r_istore_n (pc := 26) dX11_isOver_26 (Nat.le_of_ble_eq_true rfl) ?_
  dsimp only [lsSt, List.set, mLs, mEnt]
  exact (L_isOver hD hsh ht n _ _ hn hB_11 hR).mono (fun v h' q => ⟨q.1, q.2.1, hS_11.trans q.2.2⟩)
end mg_70
section mg_71
/-! ===== the reference: a step of a task, a turn ===== -/
def doesInR (pool : Nat → Int) (cl : (Nat → Int) → Nat → (Nat → Int) → Prop) (sh : (Nat → Int) → Int → (Nat → Int) → Prop) (m : Nat → Int) (t p : Nat) (f : Int) (m' : Nat → Int) : Prop :=
  mOk m ∧ t ≤ 9 ∧ p < 12342 ∧ ∃ n : Nat, n ≤ 60 ∧ m (1619 + 72 * t) = n ∧
  ((pool p = 40 ∧ ((m 0 = 60 ∧ f = 107 ∧ m' = m) ∨ (¬ m 0 = 60 ∧ ¬ openP m (m (1619 + 72 * t + n)) ∧ f = 101 ∧ m' = m) ∨ (¬ m 0 = 60 ∧ openP m (m (1619 + 72 * t + n)) ∧ f = 0 ∧ m' = updI (updI (opensM m (m 0).toNat (m (1619 + 72 * t + n)) t) (1620 + 72 * t + n) (m 0)) (1619 + 72 * t) (n + 1)))) ∨
   (pool p = 41 ∧ f = 0 ∧ sh (updI m (1619 + 72 * t) (n - 1)) (m (1619 + 72 * t + n)) m') ∨
   (¬ pool p = 40 ∧ ¬ pool p = 41 ∧ doesR pool cl m p (m (1619 + 72 * t + n)) f m'))
set_option maxHeartbeats 4000000 in
set_option maxRecDepth 100000 in
theorem m_doesIn {G : mG} {l : Launch} {D : Nat} (hD : 280 ≤ D) {x s : Nat} {f4 f6 f8 f9 f10 f11 f12 f13 f14 f16 f18 : Int} {kp was pool tape pln pap rwd rw : Nat → Int} (hPo : ∀ q, InR (pool q)) {cl : (Nat → Int) → Nat → (Nat → Int) → Prop} {sh : (Nat → Int) → Int → (Nat → Int) → Prop} (hcl : ∀ (m1 m2 : Nat → Int) (t : Nat) (h : mH), isM h x (mFs x f4 f6 f8 f9 f10 f11 f12 f13 f14 f16 f18 s) m1 kp was pool tape pln pap rwd rw → cl m1 t m2 → RUNM G l D mX11_closes [.ref x, .int (J (t : Int))] h (fun v h' => v = none ∧ isM h' x (mFs x f4 f6 f8 f9 f10 f11 f12 f13 f14 f16 f18 s) m2 kp was pool tape pln pap rwd rw ∧ Same (mBlk x) h h')) (hsh : ∀ (m1 m2 : Nat → Int) (e : Int) (h : mH), isM h x (mFs x f4 f6 f8 f9 f10 f11 f12 f13 f14 f16 f18 s) m1 kp was pool tape pln pap rwd rw → sh m1 e m2 → RUNM G l D mX11_shuts [.ref x, .int (J e)] h (fun v h' => v = none ∧ isM h' x (mFs x f4 f6 f8 f9 f10 f11 f12 f13 f14 f16 f18 s) m2 kp was pool tape pln pap rwd rw ∧ Same (mBlk x) h h')) {m m' : Nat → Int} {t p : Nat} {f : Int} {h : mH} (hB : isM h x (mFs x f4 f6 f8 f9 f10 f11 f12 f13 f14 f16 f18 s) m kp was pool tape pln pap rwd rw) (hR : doesInR pool cl sh m t p f m') : RUNM G l (D + 3) mX11_doesIn [.ref x, .int (J (t : Int)), .int (J (p : Int))] h (fun v h' => v = some (.int (J f)) ∧ isM h' x (mFs x f4 f6 f8 f9 f10 f11 f12 f13 f14 f16 f18 s) m' kp was pool tape pln pap rwd rw ∧ Same (mBlk x) h h') := by
  obtain ⟨hok, ht, hp, n, hn, hc, hR⟩ := hR
  obtain ⟨hM, k0, k1, k2, k3, k4, k5, k7⟩ := id hok
  have hB0 := hB
  have rp := hPo p
  have r0 := hM 0
  have rs := hM (1619 + 72 * t + n)
  have hd : ∀ (f : Int) (m' : Nat → Int), doesR pool cl m p (m (1619 + 72 * t + n)) f m' → RUNM G l (D + 2) mX11_does [.ref x, .int (J (p : Int)), .int (J (m (1619 + 72 * t + n)))] h (fun v h' => v = some (.int (J f)) ∧ isM h' x (mFs x f4 f6 f8 f9 f10 f11 f12 f13 f14 f16 f18 s) m' kp was pool tape pln pap rwd rw ∧ Same (mBlk x) h h') := fun f m' q => m_does (by omega) hPo hcl hB0 q
  dsimp only [mFs] at hB
  refine RUNM.of (by decide +kernel) (Nat.le_of_ble_eq_true rfl) ?_
  rcases hR with ⟨hk, hR⟩ | ⟨hk, rfl, hR⟩ | ⟨hk, hk2, hR⟩
  · rcases hR with ⟨h6, rfl, rfl⟩ | ⟨h6, ho, rfl, rfl⟩ | ⟨h6, ho, rfl, rfl⟩
    · refine r_iload_n (pc := 0) dX11_doesIn_0 rfl ?_
      refine rj_bipush (pc := 1) dX11_doesIn_1 (by decide +kernel) ?_
      refine r_aload_n (pc := 3) dX11_doesIn_3 rfl (by first | rfl | exact isRefV_rf _) ?_
      refine rm_getf (pc := 4) dX11_doesIn_4 fX11_11 (by assumption) rfl ?_
      refine r_iload_n (pc := 7) dX11_doesIn_7 rfl ?_
      refine rj_bipush (pc := 8) dX11_doesIn_8 (by decide +kernel) ?_
      refine rj_iconst (pc := 10) dX11_doesIn_10 ?_
      refine r_callS3 (pc := 11) dX11_doesIn_11 qX11_ofTask kX11_58 sX11_ofTask (Nat.le_of_ble_eq_true rfl) (m_ofTask _) (fun v_11 h_11 q_11 => ?_)
      obtain ⟨rfl, rfl⟩ := q_11
      refine rj_iald (pc := 14) (j := 1619 + 72 * t) dX11_doesIn_14 (by first | exact isM.g0 (by assumption) | exact isM.g3 (by assumption) | exact isM.g4 (by assumption) | exact isM.g8 (by assumption) | exact isM.g7 (by assumption) | exact isM.g6 (by assumption) | exact isM.g5 (by assumption) | exact isM.g1 (by assumption) | exact isM.g2 (by assumption)) (by first | assumption | exact b01_r | exact bz_r | omega | (constructor <;> omega) | exact hM _ | exact hPo _ | exact hTa _ | exact hRo _) (by first | assumption | exact b01_r | exact bz_r | omega | (constructor <;> omega) | exact hM _ | exact hPo _ | exact hTa _ | exact hRo _) (by first | assumption | exact b01_r | exact bz_r | omega | (constructor <;> omega) | exact hM _ | exact hPo _ | exact hTa _ | exact hRo _) (by omega) ?_
      rw [hc]
      refine r_callS3 (pc := 15) dX11_doesIn_15 qX11_ofTask kX11_58 sX11_ofTask (Nat.le_of_ble_eq_true rfl) (m_ofTask _) (fun v_15 h_15 q_15 => ?_)
      obtain ⟨rfl, rfl⟩ := q_15
      rw [show (1608 + 72 * (t : Int) + 11 + (n : Int)) = ((1619 + 72 * t + n : Nat) : Int) by omega]
      refine r_istore_n (pc := 18) dX11_doesIn_18 (Nat.le_of_ble_eq_true rfl) ?_
      dsimp only [lsSt, List.set, mLs, mEnt]
      refine r_aload_n (pc := 19) dX11_doesIn_19 rfl (by first | rfl | exact isRefV_rf _) ?_
      refine rm_getf (pc := 20) dX11_doesIn_20 fX11_11 (by assumption) rfl ?_
      refine r_iload_n (pc := 23) dX11_doesIn_23 rfl ?_
      refine rj_iald (pc := 24) (j := 1619 + 72 * t + n) dX11_doesIn_24 (by first | exact isM.g0 (by assumption) | exact isM.g3 (by assumption) | exact isM.g4 (by assumption) | exact isM.g8 (by assumption) | exact isM.g7 (by assumption) | exact isM.g6 (by assumption) | exact isM.g5 (by assumption) | exact isM.g1 (by assumption) | exact isM.g2 (by assumption)) (by first | assumption | exact b01_r | exact bz_r | omega | (constructor <;> omega) | exact hM _ | exact hPo _ | exact hTa _ | exact hRo _) (by first | assumption | exact b01_r | exact bz_r | omega | (constructor <;> omega) | exact hM _ | exact hPo _ | exact hTa _ | exact hRo _) (by first | assumption | exact b01_r | exact bz_r | omega | (constructor <;> omega) | exact hM _ | exact hPo _ | exact hTa _ | exact hRo _) (by omega) ?_
      refine r_istore (pc := 25) dX11_doesIn_25 (Nat.le_of_ble_eq_true rfl) ?_
      dsimp only [lsSt, List.set, mLs, mEnt]
      refine r_aload_n (pc := 27) dX11_doesIn_27 rfl (by first | rfl | exact isRefV_rf _) ?_
      refine rm_getf (pc := 28) dX11_doesIn_28 fX11_21 (by assumption) rfl ?_
      refine r_iload_n (pc := 31) dX11_doesIn_31 rfl ?_
      refine rj_iald (pc := 32) (j := p) dX11_doesIn_32 (by first | exact isM.g0 (by assumption) | exact isM.g3 (by assumption) | exact isM.g4 (by assumption) | exact isM.g8 (by assumption) | exact isM.g7 (by assumption) | exact isM.g6 (by assumption) | exact isM.g5 (by assumption) | exact isM.g1 (by assumption) | exact isM.g2 (by assumption)) (by first | assumption | exact b01_r | exact bz_r | omega | (constructor <;> omega) | exact hM _ | exact hPo _ | exact hTa _ | exact hRo _) (by first | assumption | exact b01_r | exact bz_r | omega | (constructor <;> omega) | exact hM _ | exact hPo _ | exact hTa _ | exact hRo _) (by first | assumption | exact b01_r | exact bz_r | omega | (constructor <;> omega) | exact hM _ | exact hPo _ | exact hTa _ | exact hRo _) (by omega) ?_
      refine rj_bipush (pc := 33) dX11_doesIn_33 (by decide +kernel) ?_
      refine rj_icmp_ne (pc := 35) (tgt := 97) dX11_doesIn_35 (by decide) (by first | assumption | exact b01_r | exact bz_r | omega | (constructor <;> omega) | exact hM _ | exact hPo _ | exact hTa _ | exact hRo _) (by first | assumption | exact b01_r | exact bz_r | omega | (constructor <;> omega) | exact hM _ | exact hPo _ | exact hTa _ | exact hRo _) (fun c_35 => ?_) (fun c_35 => ?_)
      · exfalso; omega
      · refine r_aload_n (pc := 38) dX11_doesIn_38 rfl (by first | rfl | exact isRefV_rf _) ?_
        refine rm_getf (pc := 39) dX11_doesIn_39 fX11_11 (by assumption) rfl ?_
        refine rj_iconst (pc := 42) dX11_doesIn_42 ?_
        refine rj_iald (pc := 43) (j := 0) dX11_doesIn_43 (by first | exact isM.g0 (by assumption) | exact isM.g3 (by assumption) | exact isM.g4 (by assumption) | exact isM.g8 (by assumption) | exact isM.g7 (by assumption) | exact isM.g6 (by assumption) | exact isM.g5 (by assumption) | exact isM.g1 (by assumption) | exact isM.g2 (by assumption)) (by first | assumption | exact b01_r | exact bz_r | omega | (constructor <;> omega) | exact hM _ | exact hPo _ | exact hTa _ | exact hRo _) (by first | assumption | exact b01_r | exact bz_r | omega | (constructor <;> omega) | exact hM _ | exact hPo _ | exact hTa _ | exact hRo _) (by first | assumption | exact b01_r | exact bz_r | omega | (constructor <;> omega) | exact hM _ | exact hPo _ | exact hTa _ | exact hRo _) rfl ?_
        refine rj_bipush (pc := 44) dX11_doesIn_44 (by decide +kernel) ?_
        refine rj_icmp_ne (pc := 46) (tgt := 52) dX11_doesIn_46 (by decide) (by first | assumption | exact b01_r | exact bz_r | omega | (constructor <;> omega) | exact hM _ | exact hPo _ | exact hTa _ | exact hRo _) (by first | assumption | exact b01_r | exact bz_r | omega | (constructor <;> omega) | exact hM _ | exact hPo _ | exact hTa _ | exact hRo _) (fun c_46 => ?_) (fun c_46 => ?_)
        · exact absurd h6 c_46
        · refine rj_bipush (pc := 49) dX11_doesIn_49 (by decide +kernel) ?_
          refine r_ireturn (pc := 51) .int dX11_doesIn_51 rfl (by first | rfl | assumption) ?_
          exact ⟨rfl, hB0, Same.refl⟩
    · refine r_iload_n (pc := 0) dX11_doesIn_0 rfl ?_
      refine rj_bipush (pc := 1) dX11_doesIn_1 (by decide +kernel) ?_
      refine r_aload_n (pc := 3) dX11_doesIn_3 rfl (by first | rfl | exact isRefV_rf _) ?_
      refine rm_getf (pc := 4) dX11_doesIn_4 fX11_11 (by assumption) rfl ?_
      refine r_iload_n (pc := 7) dX11_doesIn_7 rfl ?_
      refine rj_bipush (pc := 8) dX11_doesIn_8 (by decide +kernel) ?_
      refine rj_iconst (pc := 10) dX11_doesIn_10 ?_
      refine r_callS3 (pc := 11) dX11_doesIn_11 qX11_ofTask kX11_58 sX11_ofTask (Nat.le_of_ble_eq_true rfl) (m_ofTask _) (fun v_11 h_11 q_11 => ?_)
      obtain ⟨rfl, rfl⟩ := q_11
      refine rj_iald (pc := 14) (j := 1619 + 72 * t) dX11_doesIn_14 (by first | exact isM.g0 (by assumption) | exact isM.g3 (by assumption) | exact isM.g4 (by assumption) | exact isM.g8 (by assumption) | exact isM.g7 (by assumption) | exact isM.g6 (by assumption) | exact isM.g5 (by assumption) | exact isM.g1 (by assumption) | exact isM.g2 (by assumption)) (by first | assumption | exact b01_r | exact bz_r | omega | (constructor <;> omega) | exact hM _ | exact hPo _ | exact hTa _ | exact hRo _) (by first | assumption | exact b01_r | exact bz_r | omega | (constructor <;> omega) | exact hM _ | exact hPo _ | exact hTa _ | exact hRo _) (by first | assumption | exact b01_r | exact bz_r | omega | (constructor <;> omega) | exact hM _ | exact hPo _ | exact hTa _ | exact hRo _) (by omega) ?_
      rw [hc]
      refine r_callS3 (pc := 15) dX11_doesIn_15 qX11_ofTask kX11_58 sX11_ofTask (Nat.le_of_ble_eq_true rfl) (m_ofTask _) (fun v_15 h_15 q_15 => ?_)
      obtain ⟨rfl, rfl⟩ := q_15
      rw [show (1608 + 72 * (t : Int) + 11 + (n : Int)) = ((1619 + 72 * t + n : Nat) : Int) by omega]
      refine r_istore_n (pc := 18) dX11_doesIn_18 (Nat.le_of_ble_eq_true rfl) ?_
      dsimp only [lsSt, List.set, mLs, mEnt]
      refine r_aload_n (pc := 19) dX11_doesIn_19 rfl (by first | rfl | exact isRefV_rf _) ?_
      refine rm_getf (pc := 20) dX11_doesIn_20 fX11_11 (by assumption) rfl ?_
      refine r_iload_n (pc := 23) dX11_doesIn_23 rfl ?_
      refine rj_iald (pc := 24) (j := 1619 + 72 * t + n) dX11_doesIn_24 (by first | exact isM.g0 (by assumption) | exact isM.g3 (by assumption) | exact isM.g4 (by assumption) | exact isM.g8 (by assumption) | exact isM.g7 (by assumption) | exact isM.g6 (by assumption) | exact isM.g5 (by assumption) | exact isM.g1 (by assumption) | exact isM.g2 (by assumption)) (by first | assumption | exact b01_r | exact bz_r | omega | (constructor <;> omega) | exact hM _ | exact hPo _ | exact hTa _ | exact hRo _) (by first | assumption | exact b01_r | exact bz_r | omega | (constructor <;> omega) | exact hM _ | exact hPo _ | exact hTa _ | exact hRo _) (by first | assumption | exact b01_r | exact bz_r | omega | (constructor <;> omega) | exact hM _ | exact hPo _ | exact hTa _ | exact hRo _) (by omega) ?_
      refine r_istore (pc := 25) dX11_doesIn_25 (Nat.le_of_ble_eq_true rfl) ?_
      dsimp only [lsSt, List.set, mLs, mEnt]
      refine r_aload_n (pc := 27) dX11_doesIn_27 rfl (by first | rfl | exact isRefV_rf _) ?_
      refine rm_getf (pc := 28) dX11_doesIn_28 fX11_21 (by assumption) rfl ?_
      refine r_iload_n (pc := 31) dX11_doesIn_31 rfl ?_
      refine rj_iald (pc := 32) (j := p) dX11_doesIn_32 (by first | exact isM.g0 (by assumption) | exact isM.g3 (by assumption) | exact isM.g4 (by assumption) | exact isM.g8 (by assumption) | exact isM.g7 (by assumption) | exact isM.g6 (by assumption) | exact isM.g5 (by assumption) | exact isM.g1 (by assumption) | exact isM.g2 (by assumption)) (by first | assumption | exact b01_r | exact bz_r | omega | (constructor <;> omega) | exact hM _ | exact hPo _ | exact hTa _ | exact hRo _) (by first | assumption | exact b01_r | exact bz_r | omega | (constructor <;> omega) | exact hM _ | exact hPo _ | exact hTa _ | exact hRo _) (by first | assumption | exact b01_r | exact bz_r | omega | (constructor <;> omega) | exact hM _ | exact hPo _ | exact hTa _ | exact hRo _) (by omega) ?_
      refine rj_bipush (pc := 33) dX11_doesIn_33 (by decide +kernel) ?_
      refine rj_icmp_ne (pc := 35) (tgt := 97) dX11_doesIn_35 (by decide) (by first | assumption | exact b01_r | exact bz_r | omega | (constructor <;> omega) | exact hM _ | exact hPo _ | exact hTa _ | exact hRo _) (by first | assumption | exact b01_r | exact bz_r | omega | (constructor <;> omega) | exact hM _ | exact hPo _ | exact hTa _ | exact hRo _) (fun c_35 => ?_) (fun c_35 => ?_)
      · exfalso; omega
      · refine r_aload_n (pc := 38) dX11_doesIn_38 rfl (by first | rfl | exact isRefV_rf _) ?_
        refine rm_getf (pc := 39) dX11_doesIn_39 fX11_11 (by assumption) rfl ?_
        refine rj_iconst (pc := 42) dX11_doesIn_42 ?_
        refine rj_iald (pc := 43) (j := 0) dX11_doesIn_43 (by first | exact isM.g0 (by assumption) | exact isM.g3 (by assumption) | exact isM.g4 (by assumption) | exact isM.g8 (by assumption) | exact isM.g7 (by assumption) | exact isM.g6 (by assumption) | exact isM.g5 (by assumption) | exact isM.g1 (by assumption) | exact isM.g2 (by assumption)) (by first | assumption | exact b01_r | exact bz_r | omega | (constructor <;> omega) | exact hM _ | exact hPo _ | exact hTa _ | exact hRo _) (by first | assumption | exact b01_r | exact bz_r | omega | (constructor <;> omega) | exact hM _ | exact hPo _ | exact hTa _ | exact hRo _) (by first | assumption | exact b01_r | exact bz_r | omega | (constructor <;> omega) | exact hM _ | exact hPo _ | exact hTa _ | exact hRo _) rfl ?_
        refine rj_bipush (pc := 44) dX11_doesIn_44 (by decide +kernel) ?_
        refine rj_icmp_ne (pc := 46) (tgt := 52) dX11_doesIn_46 (by decide) (by first | assumption | exact b01_r | exact bz_r | omega | (constructor <;> omega) | exact hM _ | exact hPo _ | exact hTa _ | exact hRo _) (by first | assumption | exact b01_r | exact bz_r | omega | (constructor <;> omega) | exact hM _ | exact hPo _ | exact hTa _ | exact hRo _) (fun c_46 => ?_) (fun c_46 => ?_)
        · refine r_aload_n (pc := 52) dX11_doesIn_52 rfl (by first | rfl | exact isRefV_rf _) ?_
          refine r_iload (pc := 53) dX11_doesIn_53 rfl ?_
          refine r_callV1 (pc := 55) dX11_doesIn_55 qX11_isOpen kX11_146 vX11_isOpen (by exact isM.gx (by assumption)) rfl rfl (Nat.le_of_ble_eq_true rfl) (m_isOpen _ hB0 hM k0 rs) (fun v_55 h_55 q_55 => ?_)
          obtain ⟨rfl, rfl⟩ := q_55
          refine rj_if_ne (pc := 58) (tgt := 64) dX11_doesIn_58 (by decide) (by first | assumption | exact b01_r | exact bz_r | omega | (constructor <;> omega) | exact hM _ | exact hPo _ | exact hTa _ | exact hRo _) (fun c_58 => ?_) (fun c_58 => ?_)
          · try simp only [b01_0, bz_0, Classical.not_not] at c_58
            exact absurd c_58 ho
          · try simp only [b01_0, bz_0, Classical.not_not] at c_58
            refine rj_bipush (pc := 61) dX11_doesIn_61 (by decide +kernel) ?_
            refine r_ireturn (pc := 63) .int dX11_doesIn_63 rfl (by first | rfl | assumption) ?_
            exact ⟨rfl, hB0, Same.refl⟩
        · exact absurd c_46 h6
    · have eo : (opensM m (m 0).toNat (m (1619 + 72 * t + n)) t) (1619 + 72 * t) = n := by unfold opensM; rw [updI_n (by omega), updI_n (by omega), updI_n (by omega), updI_n (by omega), updI_n (by omega), updI_n (by omega)]; exact hc
      refine r_iload_n (pc := 0) dX11_doesIn_0 rfl ?_
      refine rj_bipush (pc := 1) dX11_doesIn_1 (by decide +kernel) ?_
      refine r_aload_n (pc := 3) dX11_doesIn_3 rfl (by first | rfl | exact isRefV_rf _) ?_
      refine rm_getf (pc := 4) dX11_doesIn_4 fX11_11 (by assumption) rfl ?_
      refine r_iload_n (pc := 7) dX11_doesIn_7 rfl ?_
      refine rj_bipush (pc := 8) dX11_doesIn_8 (by decide +kernel) ?_
      refine rj_iconst (pc := 10) dX11_doesIn_10 ?_
      refine r_callS3 (pc := 11) dX11_doesIn_11 qX11_ofTask kX11_58 sX11_ofTask (Nat.le_of_ble_eq_true rfl) (m_ofTask _) (fun v_11 h_11 q_11 => ?_)
      obtain ⟨rfl, rfl⟩ := q_11
      refine rj_iald (pc := 14) (j := 1619 + 72 * t) dX11_doesIn_14 (by first | exact isM.g0 (by assumption) | exact isM.g3 (by assumption) | exact isM.g4 (by assumption) | exact isM.g8 (by assumption) | exact isM.g7 (by assumption) | exact isM.g6 (by assumption) | exact isM.g5 (by assumption) | exact isM.g1 (by assumption) | exact isM.g2 (by assumption)) (by first | assumption | exact b01_r | exact bz_r | omega | (constructor <;> omega) | exact hM _ | exact hPo _ | exact hTa _ | exact hRo _) (by first | assumption | exact b01_r | exact bz_r | omega | (constructor <;> omega) | exact hM _ | exact hPo _ | exact hTa _ | exact hRo _) (by first | assumption | exact b01_r | exact bz_r | omega | (constructor <;> omega) | exact hM _ | exact hPo _ | exact hTa _ | exact hRo _) (by omega) ?_
      rw [hc]
      refine r_callS3 (pc := 15) dX11_doesIn_15 qX11_ofTask kX11_58 sX11_ofTask (Nat.le_of_ble_eq_true rfl) (m_ofTask _) (fun v_15 h_15 q_15 => ?_)
      obtain ⟨rfl, rfl⟩ := q_15
      rw [show (1608 + 72 * (t : Int) + 11 + (n : Int)) = ((1619 + 72 * t + n : Nat) : Int) by omega]
      refine r_istore_n (pc := 18) dX11_doesIn_18 (Nat.le_of_ble_eq_true rfl) ?_
      dsimp only [lsSt, List.set, mLs, mEnt]
      refine r_aload_n (pc := 19) dX11_doesIn_19 rfl (by first | rfl | exact isRefV_rf _) ?_
      refine rm_getf (pc := 20) dX11_doesIn_20 fX11_11 (by assumption) rfl ?_
      refine r_iload_n (pc := 23) dX11_doesIn_23 rfl ?_
      refine rj_iald (pc := 24) (j := 1619 + 72 * t + n) dX11_doesIn_24 (by first | exact isM.g0 (by assumption) | exact isM.g3 (by assumption) | exact isM.g4 (by assumption) | exact isM.g8 (by assumption) | exact isM.g7 (by assumption) | exact isM.g6 (by assumption) | exact isM.g5 (by assumption) | exact isM.g1 (by assumption) | exact isM.g2 (by assumption)) (by first | assumption | exact b01_r | exact bz_r | omega | (constructor <;> omega) | exact hM _ | exact hPo _ | exact hTa _ | exact hRo _) (by first | assumption | exact b01_r | exact bz_r | omega | (constructor <;> omega) | exact hM _ | exact hPo _ | exact hTa _ | exact hRo _) (by first | assumption | exact b01_r | exact bz_r | omega | (constructor <;> omega) | exact hM _ | exact hPo _ | exact hTa _ | exact hRo _) (by omega) ?_
      refine r_istore (pc := 25) dX11_doesIn_25 (Nat.le_of_ble_eq_true rfl) ?_
      dsimp only [lsSt, List.set, mLs, mEnt]
      refine r_aload_n (pc := 27) dX11_doesIn_27 rfl (by first | rfl | exact isRefV_rf _) ?_
      refine rm_getf (pc := 28) dX11_doesIn_28 fX11_21 (by assumption) rfl ?_
      refine r_iload_n (pc := 31) dX11_doesIn_31 rfl ?_
      refine rj_iald (pc := 32) (j := p) dX11_doesIn_32 (by first | exact isM.g0 (by assumption) | exact isM.g3 (by assumption) | exact isM.g4 (by assumption) | exact isM.g8 (by assumption) | exact isM.g7 (by assumption) | exact isM.g6 (by assumption) | exact isM.g5 (by assumption) | exact isM.g1 (by assumption) | exact isM.g2 (by assumption)) (by first | assumption | exact b01_r | exact bz_r | omega | (constructor <;> omega) | exact hM _ | exact hPo _ | exact hTa _ | exact hRo _) (by first | assumption | exact b01_r | exact bz_r | omega | (constructor <;> omega) | exact hM _ | exact hPo _ | exact hTa _ | exact hRo _) (by first | assumption | exact b01_r | exact bz_r | omega | (constructor <;> omega) | exact hM _ | exact hPo _ | exact hTa _ | exact hRo _) (by omega) ?_
      refine rj_bipush (pc := 33) dX11_doesIn_33 (by decide +kernel) ?_
      refine rj_icmp_ne (pc := 35) (tgt := 97) dX11_doesIn_35 (by decide) (by first | assumption | exact b01_r | exact bz_r | omega | (constructor <;> omega) | exact hM _ | exact hPo _ | exact hTa _ | exact hRo _) (by first | assumption | exact b01_r | exact bz_r | omega | (constructor <;> omega) | exact hM _ | exact hPo _ | exact hTa _ | exact hRo _) (fun c_35 => ?_) (fun c_35 => ?_)
      · exfalso; omega
      · refine r_aload_n (pc := 38) dX11_doesIn_38 rfl (by first | rfl | exact isRefV_rf _) ?_
        refine rm_getf (pc := 39) dX11_doesIn_39 fX11_11 (by assumption) rfl ?_
        refine rj_iconst (pc := 42) dX11_doesIn_42 ?_
        refine rj_iald (pc := 43) (j := 0) dX11_doesIn_43 (by first | exact isM.g0 (by assumption) | exact isM.g3 (by assumption) | exact isM.g4 (by assumption) | exact isM.g8 (by assumption) | exact isM.g7 (by assumption) | exact isM.g6 (by assumption) | exact isM.g5 (by assumption) | exact isM.g1 (by assumption) | exact isM.g2 (by assumption)) (by first | assumption | exact b01_r | exact bz_r | omega | (constructor <;> omega) | exact hM _ | exact hPo _ | exact hTa _ | exact hRo _) (by first | assumption | exact b01_r | exact bz_r | omega | (constructor <;> omega) | exact hM _ | exact hPo _ | exact hTa _ | exact hRo _) (by first | assumption | exact b01_r | exact bz_r | omega | (constructor <;> omega) | exact hM _ | exact hPo _ | exact hTa _ | exact hRo _) rfl ?_
        refine rj_bipush (pc := 44) dX11_doesIn_44 (by decide +kernel) ?_
        refine rj_icmp_ne (pc := 46) (tgt := 52) dX11_doesIn_46 (by decide) (by first | assumption | exact b01_r | exact bz_r | omega | (constructor <;> omega) | exact hM _ | exact hPo _ | exact hTa _ | exact hRo _) (by first | assumption | exact b01_r | exact bz_r | omega | (constructor <;> omega) | exact hM _ | exact hPo _ | exact hTa _ | exact hRo _) (fun c_46 => ?_) (fun c_46 => ?_)
        · refine r_aload_n (pc := 52) dX11_doesIn_52 rfl (by first | rfl | exact isRefV_rf _) ?_
          refine r_iload (pc := 53) dX11_doesIn_53 rfl ?_
          refine r_callV1 (pc := 55) dX11_doesIn_55 qX11_isOpen kX11_146 vX11_isOpen (by exact isM.gx (by assumption)) rfl rfl (Nat.le_of_ble_eq_true rfl) (m_isOpen _ hB0 hM k0 rs) (fun v_55 h_55 q_55 => ?_)
          obtain ⟨rfl, rfl⟩ := q_55
          refine rj_if_ne (pc := 58) (tgt := 64) dX11_doesIn_58 (by decide) (by first | assumption | exact b01_r | exact bz_r | omega | (constructor <;> omega) | exact hM _ | exact hPo _ | exact hTa _ | exact hRo _) (fun c_58 => ?_) (fun c_58 => ?_)
          · try simp only [b01_0, bz_0, Classical.not_not] at c_58
            refine r_aload_n (pc := 64) dX11_doesIn_64 rfl (by first | rfl | exact isRefV_rf _) ?_
            refine rm_getf (pc := 65) dX11_doesIn_65 fX11_11 (by assumption) rfl ?_
            refine r_iload_n (pc := 68) dX11_doesIn_68 rfl ?_
            refine rj_iconst (pc := 69) dX11_doesIn_69 ?_
            refine rj_iadd (pc := 70) dX11_doesIn_70 ?_
            refine r_aload_n (pc := 71) dX11_doesIn_71 rfl (by first | rfl | exact isRefV_rf _) ?_
            refine r_iload (pc := 72) dX11_doesIn_72 rfl ?_
            refine r_iload_n (pc := 74) dX11_doesIn_74 rfl ?_
            refine r_callV2 (pc := 75) dX11_doesIn_75 qX11_opens kX11_186 vX11_opens (by exact isM.gx (by assumption)) rfl rfl (Nat.le_of_ble_eq_true rfl) (m_opens _ hB0 (C := (m 0).toNat) (by omega) (by omega)) (fun v_75 h_75 q_75 => ?_)
            obtain ⟨rfl, hB_75, S_75⟩ := q_75
            rw [show (((m 0).toNat : Nat) : Int) = m 0 by omega]
            first | refine rm_iast0 (pc := 78) (j := 1620 + 72 * t + n) dX11_doesIn_78 (by assumption) (by first | assumption | exact b01_r | exact bz_r | omega | (constructor <;> omega) | exact hM _ | exact hPo _ | exact hTa _ | exact hRo _) (by first | assumption | exact b01_r | exact bz_r | omega | (constructor <;> omega) | exact hM _ | exact hPo _ | exact hTa _ | exact hRo _) (by first | assumption | exact b01_r | exact bz_r | omega | (constructor <;> omega) | exact hM _ | exact hPo _ | exact hTa _ | exact hRo _) (by omega) (fun h_78 hB_78 hS_78 => ?_)
            refine r_aload_n (pc := 79) dX11_doesIn_79 rfl (by first | rfl | exact isRefV_rf _) ?_
            refine rm_getf (pc := 80) dX11_doesIn_80 fX11_11 (by assumption) rfl ?_
            refine r_iload_n (pc := 83) dX11_doesIn_83 rfl ?_
            refine rj_bipush (pc := 84) dX11_doesIn_84 (by decide +kernel) ?_
            refine rj_iconst (pc := 86) dX11_doesIn_86 ?_
            refine r_callS3 (pc := 87) dX11_doesIn_87 qX11_ofTask kX11_58 sX11_ofTask (Nat.le_of_ble_eq_true rfl) (m_ofTask _) (fun v_87 h_87 q_87 => ?_)
            obtain ⟨rfl, rfl⟩ := q_87
            refine r_dup2 (pc := 90) dX11_doesIn_90 rfl rfl ?_
            refine rj_iald (pc := 91) (j := 1619 + 72 * t) dX11_doesIn_91 (by first | exact isM.g0 (by assumption) | exact isM.g3 (by assumption) | exact isM.g4 (by assumption) | exact isM.g8 (by assumption) | exact isM.g7 (by assumption) | exact isM.g6 (by assumption) | exact isM.g5 (by assumption) | exact isM.g1 (by assumption) | exact isM.g2 (by assumption)) (by first | assumption | exact b01_r | exact bz_r | omega | (constructor <;> omega) | exact hM _ | exact hPo _ | exact hTa _ | exact hRo _) (by first | assumption | exact b01_r | exact bz_r | omega | (constructor <;> omega) | exact hM _ | exact hPo _ | exact hTa _ | exact hRo _) (by first | assumption | exact b01_r | exact bz_r | omega | (constructor <;> omega) | exact hM _ | exact hPo _ | exact hTa _ | exact hRo _) (by omega) ?_
            rw [show updI (opensM m (m 0).toNat (m (1619 + 72 * t + n)) t) (1620 + 72 * t + n) (m 0) (1619 + 72 * t) = n from (updI_n (by omega)).trans eo]
            refine rj_iconst (pc := 92) dX11_doesIn_92 ?_
            refine rj_iadd (pc := 93) dX11_doesIn_93 ?_
            first | refine rm_iast0 (pc := 94) (j := 1619 + 72 * t) dX11_doesIn_94 (by assumption) (by first | assumption | exact b01_r | exact bz_r | omega | (constructor <;> omega) | exact hM _ | exact hPo _ | exact hTa _ | exact hRo _) (by first | assumption | exact b01_r | exact bz_r | omega | (constructor <;> omega) | exact hM _ | exact hPo _ | exact hTa _ | exact hRo _) (by first | assumption | exact b01_r | exact bz_r | omega | (constructor <;> omega) | exact hM _ | exact hPo _ | exact hTa _ | exact hRo _) (by omega) (fun h_94 hB_94 hS_94 => ?_)
            refine rj_iconst (pc := 95) dX11_doesIn_95 ?_
            refine r_ireturn (pc := 96) .int dX11_doesIn_96 rfl (by first | rfl | assumption) ?_
            exact ⟨rfl, hB_94, (S_75.trans hS_78).trans hS_94⟩
          · try simp only [b01_0, bz_0, Classical.not_not] at c_58
            exact absurd ho c_58
        · exact absurd c_46 h6
  · refine r_iload_n (pc := 0) dX11_doesIn_0 rfl ?_
    refine rj_bipush (pc := 1) dX11_doesIn_1 (by decide +kernel) ?_
    refine r_aload_n (pc := 3) dX11_doesIn_3 rfl (by first | rfl | exact isRefV_rf _) ?_
    refine rm_getf (pc := 4) dX11_doesIn_4 fX11_11 (by assumption) rfl ?_
    refine r_iload_n (pc := 7) dX11_doesIn_7 rfl ?_
    refine rj_bipush (pc := 8) dX11_doesIn_8 (by decide +kernel) ?_
    refine rj_iconst (pc := 10) dX11_doesIn_10 ?_
    refine r_callS3 (pc := 11) dX11_doesIn_11 qX11_ofTask kX11_58 sX11_ofTask (Nat.le_of_ble_eq_true rfl) (m_ofTask _) (fun v_11 h_11 q_11 => ?_)
    obtain ⟨rfl, rfl⟩ := q_11
    refine rj_iald (pc := 14) (j := 1619 + 72 * t) dX11_doesIn_14 (by first | exact isM.g0 (by assumption) | exact isM.g3 (by assumption) | exact isM.g4 (by assumption) | exact isM.g8 (by assumption) | exact isM.g7 (by assumption) | exact isM.g6 (by assumption) | exact isM.g5 (by assumption) | exact isM.g1 (by assumption) | exact isM.g2 (by assumption)) (by first | assumption | exact b01_r | exact bz_r | omega | (constructor <;> omega) | exact hM _ | exact hPo _ | exact hTa _ | exact hRo _) (by first | assumption | exact b01_r | exact bz_r | omega | (constructor <;> omega) | exact hM _ | exact hPo _ | exact hTa _ | exact hRo _) (by first | assumption | exact b01_r | exact bz_r | omega | (constructor <;> omega) | exact hM _ | exact hPo _ | exact hTa _ | exact hRo _) (by omega) ?_
    rw [hc]
    refine r_callS3 (pc := 15) dX11_doesIn_15 qX11_ofTask kX11_58 sX11_ofTask (Nat.le_of_ble_eq_true rfl) (m_ofTask _) (fun v_15 h_15 q_15 => ?_)
    obtain ⟨rfl, rfl⟩ := q_15
    rw [show (1608 + 72 * (t : Int) + 11 + (n : Int)) = ((1619 + 72 * t + n : Nat) : Int) by omega]
    refine r_istore_n (pc := 18) dX11_doesIn_18 (Nat.le_of_ble_eq_true rfl) ?_
    dsimp only [lsSt, List.set, mLs, mEnt]
    refine r_aload_n (pc := 19) dX11_doesIn_19 rfl (by first | rfl | exact isRefV_rf _) ?_
    refine rm_getf (pc := 20) dX11_doesIn_20 fX11_11 (by assumption) rfl ?_
    refine r_iload_n (pc := 23) dX11_doesIn_23 rfl ?_
    refine rj_iald (pc := 24) (j := 1619 + 72 * t + n) dX11_doesIn_24 (by first | exact isM.g0 (by assumption) | exact isM.g3 (by assumption) | exact isM.g4 (by assumption) | exact isM.g8 (by assumption) | exact isM.g7 (by assumption) | exact isM.g6 (by assumption) | exact isM.g5 (by assumption) | exact isM.g1 (by assumption) | exact isM.g2 (by assumption)) (by first | assumption | exact b01_r | exact bz_r | omega | (constructor <;> omega) | exact hM _ | exact hPo _ | exact hTa _ | exact hRo _) (by first | assumption | exact b01_r | exact bz_r | omega | (constructor <;> omega) | exact hM _ | exact hPo _ | exact hTa _ | exact hRo _) (by first | assumption | exact b01_r | exact bz_r | omega | (constructor <;> omega) | exact hM _ | exact hPo _ | exact hTa _ | exact hRo _) (by omega) ?_
    refine r_istore (pc := 25) dX11_doesIn_25 (Nat.le_of_ble_eq_true rfl) ?_
    dsimp only [lsSt, List.set, mLs, mEnt]
    refine r_aload_n (pc := 27) dX11_doesIn_27 rfl (by first | rfl | exact isRefV_rf _) ?_
    refine rm_getf (pc := 28) dX11_doesIn_28 fX11_21 (by assumption) rfl ?_
    refine r_iload_n (pc := 31) dX11_doesIn_31 rfl ?_
    refine rj_iald (pc := 32) (j := p) dX11_doesIn_32 (by first | exact isM.g0 (by assumption) | exact isM.g3 (by assumption) | exact isM.g4 (by assumption) | exact isM.g8 (by assumption) | exact isM.g7 (by assumption) | exact isM.g6 (by assumption) | exact isM.g5 (by assumption) | exact isM.g1 (by assumption) | exact isM.g2 (by assumption)) (by first | assumption | exact b01_r | exact bz_r | omega | (constructor <;> omega) | exact hM _ | exact hPo _ | exact hTa _ | exact hRo _) (by first | assumption | exact b01_r | exact bz_r | omega | (constructor <;> omega) | exact hM _ | exact hPo _ | exact hTa _ | exact hRo _) (by first | assumption | exact b01_r | exact bz_r | omega | (constructor <;> omega) | exact hM _ | exact hPo _ | exact hTa _ | exact hRo _) (by omega) ?_
    refine rj_bipush (pc := 33) dX11_doesIn_33 (by decide +kernel) ?_
    refine rj_icmp_ne (pc := 35) (tgt := 97) dX11_doesIn_35 (by decide) (by first | assumption | exact b01_r | exact bz_r | omega | (constructor <;> omega) | exact hM _ | exact hPo _ | exact hTa _ | exact hRo _) (by first | assumption | exact b01_r | exact bz_r | omega | (constructor <;> omega) | exact hM _ | exact hPo _ | exact hTa _ | exact hRo _) (fun c_35 => ?_) (fun c_35 => ?_)
    · refine r_aload_n (pc := 97) dX11_doesIn_97 rfl (by first | rfl | exact isRefV_rf _) ?_
      refine rm_getf (pc := 98) dX11_doesIn_98 fX11_21 (by assumption) rfl ?_
      refine r_iload_n (pc := 101) dX11_doesIn_101 rfl ?_
      refine rj_iald (pc := 102) (j := p) dX11_doesIn_102 (by first | exact isM.g0 (by assumption) | exact isM.g3 (by assumption) | exact isM.g4 (by assumption) | exact isM.g8 (by assumption) | exact isM.g7 (by assumption) | exact isM.g6 (by assumption) | exact isM.g5 (by assumption) | exact isM.g1 (by assumption) | exact isM.g2 (by assumption)) (by first | assumption | exact b01_r | exact bz_r | omega | (constructor <;> omega) | exact hM _ | exact hPo _ | exact hTa _ | exact hRo _) (by first | assumption | exact b01_r | exact bz_r | omega | (constructor <;> omega) | exact hM _ | exact hPo _ | exact hTa _ | exact hRo _) (by first | assumption | exact b01_r | exact bz_r | omega | (constructor <;> omega) | exact hM _ | exact hPo _ | exact hTa _ | exact hRo _) (by omega) ?_
      refine rj_bipush (pc := 103) dX11_doesIn_103 (by decide +kernel) ?_
      refine rj_icmp_ne (pc := 105) (tgt := 132) dX11_doesIn_105 (by decide) (by first | assumption | exact b01_r | exact bz_r | omega | (constructor <;> omega) | exact hM _ | exact hPo _ | exact hTa _ | exact hRo _) (by first | assumption | exact b01_r | exact bz_r | omega | (constructor <;> omega) | exact hM _ | exact hPo _ | exact hTa _ | exact hRo _) (fun c_105 => ?_) (fun c_105 => ?_)
      · exfalso; omega
      · refine r_aload_n (pc := 108) dX11_doesIn_108 rfl (by first | rfl | exact isRefV_rf _) ?_
        refine rm_getf (pc := 109) dX11_doesIn_109 fX11_11 (by assumption) rfl ?_
        refine r_iload_n (pc := 112) dX11_doesIn_112 rfl ?_
        refine rj_bipush (pc := 113) dX11_doesIn_113 (by decide +kernel) ?_
        refine rj_iconst (pc := 115) dX11_doesIn_115 ?_
        refine r_callS3 (pc := 116) dX11_doesIn_116 qX11_ofTask kX11_58 sX11_ofTask (Nat.le_of_ble_eq_true rfl) (m_ofTask _) (fun v_116 h_116 q_116 => ?_)
        obtain ⟨rfl, rfl⟩ := q_116
        refine r_dup2 (pc := 119) dX11_doesIn_119 rfl rfl ?_
        refine rj_iald (pc := 120) (j := 1619 + 72 * t) dX11_doesIn_120 (by first | exact isM.g0 (by assumption) | exact isM.g3 (by assumption) | exact isM.g4 (by assumption) | exact isM.g8 (by assumption) | exact isM.g7 (by assumption) | exact isM.g6 (by assumption) | exact isM.g5 (by assumption) | exact isM.g1 (by assumption) | exact isM.g2 (by assumption)) (by first | assumption | exact b01_r | exact bz_r | omega | (constructor <;> omega) | exact hM _ | exact hPo _ | exact hTa _ | exact hRo _) (by first | assumption | exact b01_r | exact bz_r | omega | (constructor <;> omega) | exact hM _ | exact hPo _ | exact hTa _ | exact hRo _) (by first | assumption | exact b01_r | exact bz_r | omega | (constructor <;> omega) | exact hM _ | exact hPo _ | exact hTa _ | exact hRo _) (by omega) ?_
        rw [hc]
        refine rj_iconst (pc := 121) dX11_doesIn_121 ?_
        refine rj_isub (pc := 122) dX11_doesIn_122 ?_
        first | refine rm_iast0 (pc := 123) (j := 1619 + 72 * t) dX11_doesIn_123 (by assumption) (by first | assumption | exact b01_r | exact bz_r | omega | (constructor <;> omega) | exact hM _ | exact hPo _ | exact hTa _ | exact hRo _) (by first | assumption | exact b01_r | exact bz_r | omega | (constructor <;> omega) | exact hM _ | exact hPo _ | exact hTa _ | exact hRo _) (by first | assumption | exact b01_r | exact bz_r | omega | (constructor <;> omega) | exact hM _ | exact hPo _ | exact hTa _ | exact hRo _) (by omega) (fun h_123 hB_123 hS_123 => ?_)
        refine r_aload_n (pc := 124) dX11_doesIn_124 rfl (by first | rfl | exact isRefV_rf _) ?_
        refine r_iload (pc := 125) dX11_doesIn_125 rfl ?_
        refine r_callV1 (pc := 127) dX11_doesIn_127 qX11_shuts kX11_157 vX11_shuts (by exact isM.gx (by assumption)) rfl rfl (Nat.le_of_ble_eq_true rfl) ((hsh _ _ _ _ hB_123 hR).deeper (by omega)) (fun v_127 h_127 q_127 => ?_)
        obtain ⟨rfl, hB_127, S_127⟩ := q_127
        refine rj_iconst (pc := 130) dX11_doesIn_130 ?_
        refine r_ireturn (pc := 131) .int dX11_doesIn_131 rfl (by first | rfl | assumption) ?_
        exact ⟨rfl, hB_127, hS_123.trans S_127⟩
    · exfalso; omega
  · refine r_iload_n (pc := 0) dX11_doesIn_0 rfl ?_
    refine rj_bipush (pc := 1) dX11_doesIn_1 (by decide +kernel) ?_
    refine r_aload_n (pc := 3) dX11_doesIn_3 rfl (by first | rfl | exact isRefV_rf _) ?_
    refine rm_getf (pc := 4) dX11_doesIn_4 fX11_11 (by assumption) rfl ?_
    refine r_iload_n (pc := 7) dX11_doesIn_7 rfl ?_
    refine rj_bipush (pc := 8) dX11_doesIn_8 (by decide +kernel) ?_
    refine rj_iconst (pc := 10) dX11_doesIn_10 ?_
    refine r_callS3 (pc := 11) dX11_doesIn_11 qX11_ofTask kX11_58 sX11_ofTask (Nat.le_of_ble_eq_true rfl) (m_ofTask _) (fun v_11 h_11 q_11 => ?_)
    obtain ⟨rfl, rfl⟩ := q_11
    refine rj_iald (pc := 14) (j := 1619 + 72 * t) dX11_doesIn_14 (by first | exact isM.g0 (by assumption) | exact isM.g3 (by assumption) | exact isM.g4 (by assumption) | exact isM.g8 (by assumption) | exact isM.g7 (by assumption) | exact isM.g6 (by assumption) | exact isM.g5 (by assumption) | exact isM.g1 (by assumption) | exact isM.g2 (by assumption)) (by first | assumption | exact b01_r | exact bz_r | omega | (constructor <;> omega) | exact hM _ | exact hPo _ | exact hTa _ | exact hRo _) (by first | assumption | exact b01_r | exact bz_r | omega | (constructor <;> omega) | exact hM _ | exact hPo _ | exact hTa _ | exact hRo _) (by first | assumption | exact b01_r | exact bz_r | omega | (constructor <;> omega) | exact hM _ | exact hPo _ | exact hTa _ | exact hRo _) (by omega) ?_
    rw [hc]
    refine r_callS3 (pc := 15) dX11_doesIn_15 qX11_ofTask kX11_58 sX11_ofTask (Nat.le_of_ble_eq_true rfl) (m_ofTask _) (fun v_15 h_15 q_15 => ?_)
    obtain ⟨rfl, rfl⟩ := q_15
    rw [show (1608 + 72 * (t : Int) + 11 + (n : Int)) = ((1619 + 72 * t + n : Nat) : Int) by omega]
    refine r_istore_n (pc := 18) dX11_doesIn_18 (Nat.le_of_ble_eq_true rfl) ?_
    dsimp only [lsSt, List.set, mLs, mEnt]
    refine r_aload_n (pc := 19) dX11_doesIn_19 rfl (by first | rfl | exact isRefV_rf _) ?_
    refine rm_getf (pc := 20) dX11_doesIn_20 fX11_11 (by assumption) rfl ?_
    refine r_iload_n (pc := 23) dX11_doesIn_23 rfl ?_
    refine rj_iald (pc := 24) (j := 1619 + 72 * t + n) dX11_doesIn_24 (by first | exact isM.g0 (by assumption) | exact isM.g3 (by assumption) | exact isM.g4 (by assumption) | exact isM.g8 (by assumption) | exact isM.g7 (by assumption) | exact isM.g6 (by assumption) | exact isM.g5 (by assumption) | exact isM.g1 (by assumption) | exact isM.g2 (by assumption)) (by first | assumption | exact b01_r | exact bz_r | omega | (constructor <;> omega) | exact hM _ | exact hPo _ | exact hTa _ | exact hRo _) (by first | assumption | exact b01_r | exact bz_r | omega | (constructor <;> omega) | exact hM _ | exact hPo _ | exact hTa _ | exact hRo _) (by first | assumption | exact b01_r | exact bz_r | omega | (constructor <;> omega) | exact hM _ | exact hPo _ | exact hTa _ | exact hRo _) (by omega) ?_
    refine r_istore (pc := 25) dX11_doesIn_25 (Nat.le_of_ble_eq_true rfl) ?_
    dsimp only [lsSt, List.set, mLs, mEnt]
    refine r_aload_n (pc := 27) dX11_doesIn_27 rfl (by first | rfl | exact isRefV_rf _) ?_
    refine rm_getf (pc := 28) dX11_doesIn_28 fX11_21 (by assumption) rfl ?_
    refine r_iload_n (pc := 31) dX11_doesIn_31 rfl ?_
    refine rj_iald (pc := 32) (j := p) dX11_doesIn_32 (by first | exact isM.g0 (by assumption) | exact isM.g3 (by assumption) | exact isM.g4 (by assumption) | exact isM.g8 (by assumption) | exact isM.g7 (by assumption) | exact isM.g6 (by assumption) | exact isM.g5 (by assumption) | exact isM.g1 (by assumption) | exact isM.g2 (by assumption)) (by first | assumption | exact b01_r | exact bz_r | omega | (constructor <;> omega) | exact hM _ | exact hPo _ | exact hTa _ | exact hRo _) (by first | assumption | exact b01_r | exact bz_r | omega | (constructor <;> omega) | exact hM _ | exact hPo _ | exact hTa _ | exact hRo _) (by first | assumption | exact b01_r | exact bz_r | omega | (constructor <;> omega) | exact hM _ | exact hPo _ | exact hTa _ | exact hRo _) (by omega) ?_
    refine rj_bipush (pc := 33) dX11_doesIn_33 (by decide +kernel) ?_
    refine rj_icmp_ne (pc := 35) (tgt := 97) dX11_doesIn_35 (by decide) (by first | assumption | exact b01_r | exact bz_r | omega | (constructor <;> omega) | exact hM _ | exact hPo _ | exact hTa _ | exact hRo _) (by first | assumption | exact b01_r | exact bz_r | omega | (constructor <;> omega) | exact hM _ | exact hPo _ | exact hTa _ | exact hRo _) (fun c_35 => ?_) (fun c_35 => ?_)
    · refine r_aload_n (pc := 97) dX11_doesIn_97 rfl (by first | rfl | exact isRefV_rf _) ?_
      refine rm_getf (pc := 98) dX11_doesIn_98 fX11_21 (by assumption) rfl ?_
      refine r_iload_n (pc := 101) dX11_doesIn_101 rfl ?_
      refine rj_iald (pc := 102) (j := p) dX11_doesIn_102 (by first | exact isM.g0 (by assumption) | exact isM.g3 (by assumption) | exact isM.g4 (by assumption) | exact isM.g8 (by assumption) | exact isM.g7 (by assumption) | exact isM.g6 (by assumption) | exact isM.g5 (by assumption) | exact isM.g1 (by assumption) | exact isM.g2 (by assumption)) (by first | assumption | exact b01_r | exact bz_r | omega | (constructor <;> omega) | exact hM _ | exact hPo _ | exact hTa _ | exact hRo _) (by first | assumption | exact b01_r | exact bz_r | omega | (constructor <;> omega) | exact hM _ | exact hPo _ | exact hTa _ | exact hRo _) (by first | assumption | exact b01_r | exact bz_r | omega | (constructor <;> omega) | exact hM _ | exact hPo _ | exact hTa _ | exact hRo _) (by omega) ?_
      refine rj_bipush (pc := 103) dX11_doesIn_103 (by decide +kernel) ?_
      refine rj_icmp_ne (pc := 105) (tgt := 132) dX11_doesIn_105 (by decide) (by first | assumption | exact b01_r | exact bz_r | omega | (constructor <;> omega) | exact hM _ | exact hPo _ | exact hTa _ | exact hRo _) (by first | assumption | exact b01_r | exact bz_r | omega | (constructor <;> omega) | exact hM _ | exact hPo _ | exact hTa _ | exact hRo _) (fun c_105 => ?_) (fun c_105 => ?_)
      · refine r_aload_n (pc := 132) dX11_doesIn_132 rfl (by first | rfl | exact isRefV_rf _) ?_
        refine r_iload_n (pc := 133) dX11_doesIn_133 rfl ?_
        refine r_iload (pc := 134) dX11_doesIn_134 rfl ?_
        refine r_callV2 (pc := 136) dX11_doesIn_136 qX11_does kX11_136 vX11_does (by exact isM.gx (by assumption)) rfl rfl (Nat.le_of_ble_eq_true rfl) (hd _ _ hR) (fun v_136 h_136 q_136 => ?_)
        obtain ⟨rfl, hB_136, S_136⟩ := q_136
        refine r_ireturn (pc := 139) .int dX11_doesIn_139 rfl (by first | rfl | assumption) ?_
        exact ⟨rfl, hB_136, S_136⟩
      · exact absurd c_105 hk2
    · exact absurd c_35 hk
def turnFinR (sh : (Nat → Int) → Int → (Nat → Int) → Prop) (t E : Nat) (m : Nat → Int) (p : Nat) (m' : Nat → Int) : Prop :=
  mOk m ∧ p ≤ 12343 ∧ ((p < E ∧ m' = updI m (1611 + 72 * t) p) ∨ (E ≤ p ∧ isOverR sh t (if cnt (faultB m t) (m 4).toNat = 0 then 1 else 2) (updI m (1611 + 72 * t) p) m'))
def turnLoopR (pool : Nat → Int) (cl : (Nat → Int) → Nat → (Nat → Int) → Prop) (sh : (Nat → Int) → Int → (Nat → Int) → Prop) (t E : Nat) : Nat → (Nat → Int) → Nat → (Nat → Int) → Prop
  | 0, m, p, m' => E ≤ p ∧ turnFinR sh t E m p m'
  | k + 1, m, p, m' => (E ≤ p ∧ turnFinR sh t E m p m') ∨ (p < E ∧ ∃ f m1, doesInR pool cl sh m t p f m1 ∧ InR f ∧ (∀ q, InR (m1 q)) ∧
      ((¬ f = 0 ∧ isOverR sh t 2 (updI m1 (1618 + 72 * t) f) m') ∨
       (f = 0 ∧ ((pool p = 46 ∧ turnFinR sh t E (updI m1 (1615 + 72 * t) (m1 (1615 + 72 * t) + 1)) (behL pool (E - p) p 0 + 1) m') ∨
                 (¬ pool p = 46 ∧ turnLoopR pool cl sh t E k (updI m1 (1615 + 72 * t) (m1 (1615 + 72 * t) + 1)) (behL pool (E - p) p 0 + 1) m')))))
def turnM (m : Nat → Int) (t : Nat) : Nat → Int := updI (updI (updI m 7 (m 7 + 1)) (1612 + 72 * t) (m (1612 + 72 * t) + 1)) (1613 + 72 * t) (m 7 + 1)
def turnR (pool : Nat → Int) (cl : (Nat → Int) → Nat → (Nat → Int) → Prop) (sh : (Nat → Int) → Int → (Nat → Int) → Prop) (m : Nat → Int) (t : Nat) (m' : Nat → Int) : Prop :=
  t ≤ 9 ∧ mOk (turnM m t) ∧ (∃ n : Nat, n ≤ 60 ∧ m (1619 + 72 * t) = n) ∧
  ((fineV (turnM m t) t = false ∧ isOverR sh t 3 (turnM m t) m') ∨
   (fineV (turnM m t) t = true ∧ ∃ p E k : Nat, m (1617 + 72 * t) = E ∧ m (1611 + 72 * t) = p ∧ E ≤ 12342 ∧ p ≤ 12343 ∧ turnLoopR pool cl sh t E k (turnM m t) p m'))
set_option maxHeartbeats 4000000 in
set_option maxRecDepth 100000 in
theorem L_turnFin {G : mG} {l : Launch} {D : Nat} (hD : 280 ≤ D) {x s : Nat} {f4 f6 f8 f9 f10 f11 f12 f13 f14 f16 f18 : Int} {kp was pool tape pln pap rwd rw : Nat → Int} {sh : (Nat → Int) → Int → (Nat → Int) → Prop} (hsh : ∀ (m1 m2 : Nat → Int) (e : Int) (h : mH), isM h x (mFs x f4 f6 f8 f9 f10 f11 f12 f13 f14 f16 f18 s) m1 kp was pool tape pln pap rwd rw → sh m1 e m2 → RUNM G l D mX11_shuts [.ref x, .int (J e)] h (fun v h' => v = none ∧ isM h' x (mFs x f4 f6 f8 f9 f10 f11 f12 f13 f14 f16 f18 s) m2 kp was pool tape pln pap rwd rw ∧ Same (mBlk x) h h')) {t E : Nat} (ht : t ≤ 9) (hE : E ≤ 12342) {m' : Nat → Int} {m : Nat → Int} {p : Nat} {h : mH} (hB : isM h x (mFs x f4 f6 f8 f9 f10 f11 f12 f13 f14 f16 f18 s) m kp was pool tape pln pap rwd rw) (hR : turnFinR sh t E m p m') {go : Int} {v5 : Option Value} : RUN G l (D + 2) mX11_turn 182 [some (.ref x), some (.int (J (t : Int))), some (.int (J (E : Int))), some (.int (J (p : Int))), some (.int (J go)), v5] [] h (fun v h' => v = none ∧ isM h' x (mFs x f4 f6 f8 f9 f10 f11 f12 f13 f14 f16 f18 s) m' kp was pool tape pln pap rwd rw ∧ Same (mBlk x) h h') := by
  obtain ⟨hok, hp, hR⟩ := hR
  obtain ⟨hM, k0, k1, k2, k3, k4, k5, k7⟩ := id hok
  have hB0 := hB
  have e4 : updI m (1611 + 72 * t) p 4 = m 4 := updI_n (by omega)
  have ef : ∀ n, cnt (faultB (updI m (1611 + 72 * t) p) t) n = cnt (faultB m t) n := by
    intro n
    induction n with
    | zero => rfl
    | succ n ih => unfold cnt; rw [ih]; unfold faultB; rw [updI_n (by omega)]
  dsimp only [mFs] at hB
  rcases hR with ⟨hlt, rfl⟩ | ⟨hlt, hR⟩
  · refine r_aload_n (pc := 182) dX11_turn_182 rfl (by first | rfl | exact isRefV_rf _) ?_
    refine rm_getf (pc := 183) dX11_turn_183 fX11_11 (by assumption) rfl ?_
    refine r_iload_n (pc := 186) dX11_turn_186 rfl ?_
    refine rj_iconst (pc := 187) dX11_turn_187 ?_
    refine rj_iconst (pc := 188) dX11_turn_188 ?_
    refine r_callS3 (pc := 189) dX11_turn_189 qX11_ofTask kX11_58 sX11_ofTask (Nat.le_of_ble_eq_true rfl) (m_ofTask _) (fun v_189 h_189 q_189 => ?_)
    obtain ⟨rfl, rfl⟩ := q_189
    refine r_iload_n (pc := 192) dX11_turn_192 rfl ?_
    first | refine rm_iast0 (pc := 193) (j := 1611 + 72 * t) dX11_turn_193 (by assumption) (by first | assumption | exact b01_r | exact bz_r | omega | (constructor <;> omega) | exact hM _ | exact hPo _ | exact hTa _ | exact hRo _) (by first | assumption | exact b01_r | exact bz_r | omega | (constructor <;> omega) | exact hM _ | exact hPo _ | exact hTa _ | exact hRo _) (by first | assumption | exact b01_r | exact bz_r | omega | (constructor <;> omega) | exact hM _ | exact hPo _ | exact hTa _ | exact hRo _) (by omega) (fun h_193 hB_193 hS_193 => ?_)
    refine r_iload_n (pc := 194) dX11_turn_194 rfl ?_
    refine r_iload_n (pc := 195) dX11_turn_195 rfl ?_
    refine rj_icmp_lt (pc := 196) (tgt := 217) dX11_turn_196 (by decide) (by first | assumption | exact b01_r | exact bz_r | omega | (constructor <;> omega) | exact hM _ | exact hPo _ | exact hTa _ | exact hRo _) (by first | assumption | exact b01_r | exact bz_r | omega | (constructor <;> omega) | exact hM _ | exact hPo _ | exact hTa _ | exact hRo _) (fun c_196 => ?_) (fun c_196 => ?_)
    · refine r_return (pc := 217) dX11_turn_217 rfl ?_
      exact ⟨rfl, hB_193, hS_193⟩
    · exfalso; omega
  · have rg : InR (cnt (faultB m t) (m 4).toNat) := by have := cnt_r (faultB m t) (m 4).toNat; constructor <;> omega
    refine r_aload_n (pc := 182) dX11_turn_182 rfl (by first | rfl | exact isRefV_rf _) ?_
    refine rm_getf (pc := 183) dX11_turn_183 fX11_11 (by assumption) rfl ?_
    refine r_iload_n (pc := 186) dX11_turn_186 rfl ?_
    refine rj_iconst (pc := 187) dX11_turn_187 ?_
    refine rj_iconst (pc := 188) dX11_turn_188 ?_
    refine r_callS3 (pc := 189) dX11_turn_189 qX11_ofTask kX11_58 sX11_ofTask (Nat.le_of_ble_eq_true rfl) (m_ofTask _) (fun v_189 h_189 q_189 => ?_)
    obtain ⟨rfl, rfl⟩ := q_189
    refine r_iload_n (pc := 192) dX11_turn_192 rfl ?_
    first | refine rm_iast0 (pc := 193) (j := 1611 + 72 * t) dX11_turn_193 (by assumption) (by first | assumption | exact b01_r | exact bz_r | omega | (constructor <;> omega) | exact hM _ | exact hPo _ | exact hTa _ | exact hRo _) (by first | assumption | exact b01_r | exact bz_r | omega | (constructor <;> omega) | exact hM _ | exact hPo _ | exact hTa _ | exact hRo _) (by first | assumption | exact b01_r | exact bz_r | omega | (constructor <;> omega) | exact hM _ | exact hPo _ | exact hTa _ | exact hRo _) (by omega) (fun h_193 hB_193 hS_193 => ?_)
    refine r_iload_n (pc := 194) dX11_turn_194 rfl ?_
    refine r_iload_n (pc := 195) dX11_turn_195 rfl ?_
    refine rj_icmp_lt (pc := 196) (tgt := 217) dX11_turn_196 (by decide) (by first | assumption | exact b01_r | exact bz_r | omega | (constructor <;> omega) | exact hM _ | exact hPo _ | exact hTa _ | exact hRo _) (by first | assumption | exact b01_r | exact bz_r | omega | (constructor <;> omega) | exact hM _ | exact hPo _ | exact hTa _ | exact hRo _) (fun c_196 => ?_) (fun c_196 => ?_)
    · exfalso; omega
    · refine r_aload_n (pc := 199) dX11_turn_199 rfl (by first | rfl | exact isRefV_rf _) ?_
      refine r_iload_n (pc := 200) dX11_turn_200 rfl ?_
      refine r_aload_n (pc := 201) dX11_turn_201 rfl (by first | rfl | exact isRefV_rf _) ?_
      refine r_iload_n (pc := 202) dX11_turn_202 rfl ?_
      refine r_callV1 (pc := 203) dX11_turn_203 qX11_gatheredBy kX11_198 vX11_gatheredBy (by exact isM.gx (by assumption)) rfl rfl (Nat.le_of_ble_eq_true rfl) (by have y := m_gatheredBy (G := G) (l := l) 0 hB_193 (fun q => by unfold updI; split; exact ⟨by omega, by omega⟩; exact hM q) (N := (m 4).toNat) (by rw [e4]; omega) (by omega) (a := (t : Int)) ⟨by omega, by omega⟩; rw [ef] at y; exact y.deeper (by omega)) (fun v_203 h_203 q_203 => ?_)
      obtain ⟨rfl, rfl⟩ := q_203
      refine rj_if_ne (pc := 206) (tgt := 213) dX11_turn_206 (by decide) (by first | assumption | exact b01_r | exact bz_r | omega | (constructor <;> omega) | exact hM _ | exact hPo _ | exact hTa _ | exact hRo _) (fun c_206 => ?_) (fun c_206 => ?_)
      · try simp only [b01_0, bz_0, Classical.not_not] at c_206
        refine rj_iconst (pc := 213) dX11_turn_213 ?_
        rw [show (J 2) = J (if cnt (faultB m t) (m 4).toNat = 0 then 1 else 2) by rw [if_neg c_206]]
        refine r_callV2 (pc := 214) dX11_turn_214 qX11_isOver kX11_192 vX11_isOver (by exact isM.gx (by assumption)) rfl rfl (Nat.le_of_ble_eq_true rfl) ((m_isOver hD hsh hB_193 hR).deeper (by omega)) (fun v_214 h_214 q_214 => ?_)
        obtain ⟨rfl, hB_214, S_214⟩ := q_214
        refine r_return (pc := 217) dX11_turn_217 rfl ?_
        exact ⟨rfl, hB_214, hS_193.trans S_214⟩
      · try simp only [b01_0, bz_0, Classical.not_not] at c_206
        refine rj_iconst (pc := 209) dX11_turn_209 ?_
        refine r_goto (pc := 210) (tgt := 214) dX11_turn_210 (by decide) ?_
        rw [show (J 1) = J (if cnt (faultB m t) (m 4).toNat = 0 then 1 else 2) by rw [if_pos c_206]]
        refine r_callV2 (pc := 214) dX11_turn_214 qX11_isOver kX11_192 vX11_isOver (by exact isM.gx (by assumption)) rfl rfl (Nat.le_of_ble_eq_true rfl) ((m_isOver hD hsh hB_193 hR).deeper (by omega)) (fun v_214 h_214 q_214 => ?_)
        obtain ⟨rfl, hB_214, S_214⟩ := q_214
        refine r_return (pc := 217) dX11_turn_217 rfl ?_
        exact ⟨rfl, hB_214, hS_193.trans S_214⟩
set_option maxHeartbeats 4000000 in
set_option maxRecDepth 100000 in
theorem L_goes0 {G : mG} {l : Launch} {D : Nat} {h : mH} {v0 v1 v2 v3 v5 : Option Value} {Q : Option Value → mH → Prop} (K : RUN G l D mX11_turn 182 [v0, v1, v2, v3, some (.int (J 0)), v5] [] h Q) : RUN G l D mX11_turn 92 [v0, v1, v2, v3, some (.int (J 0)), v5] [] h Q := by
  refine r_iload (pc := 92) dX11_turn_92 rfl ?_
  refine rj_if_eq (pc := 94) (tgt := 182) dX11_turn_94 (by decide) (by first | assumption | exact b01_r | exact bz_r | omega | (constructor <;> omega) | exact hM _ | exact hPo _ | exact hTa _ | exact hRo _) (fun c_94 => ?_) (fun c_94 => ?_)
  · try simp only [b01_0, bz_0, Classical.not_not] at c_94
    exact K
  · try simp only [b01_0, bz_0, Classical.not_not] at c_94
    all_goals (first | exact absurd trivial ‹¬ True› | (exfalso; omega))
set_option maxHeartbeats 4000000 in
set_option maxRecDepth 100000 in
theorem L_turn {G : mG} {l : Launch} {D : Nat} (hD : 280 ≤ D) {x s : Nat} {f4 f6 f8 f9 f10 f11 f12 f13 f14 f16 f18 : Int} {kp was pool tape pln pap rwd rw : Nat → Int} (hPo : ∀ q, InR (pool q)) {cl : (Nat → Int) → Nat → (Nat → Int) → Prop} {sh : (Nat → Int) → Int → (Nat → Int) → Prop} (hcl : ∀ (m1 m2 : Nat → Int) (t : Nat) (h : mH), isM h x (mFs x f4 f6 f8 f9 f10 f11 f12 f13 f14 f16 f18 s) m1 kp was pool tape pln pap rwd rw → cl m1 t m2 → RUNM G l D mX11_closes [.ref x, .int (J (t : Int))] h (fun v h' => v = none ∧ isM h' x (mFs x f4 f6 f8 f9 f10 f11 f12 f13 f14 f16 f18 s) m2 kp was pool tape pln pap rwd rw ∧ Same (mBlk x) h h')) (hsh : ∀ (m1 m2 : Nat → Int) (e : Int) (h : mH), isM h x (mFs x f4 f6 f8 f9 f10 f11 f12 f13 f14 f16 f18 s) m1 kp was pool tape pln pap rwd rw → sh m1 e m2 → RUNM G l D mX11_shuts [.ref x, .int (J e)] h (fun v h' => v = none ∧ isM h' x (mFs x f4 f6 f8 f9 f10 f11 f12 f13 f14 f16 f18 s) m2 kp was pool tape pln pap rwd rw ∧ Same (mBlk x) h h')) {t E : Nat} (ht : t ≤ 9) (hE : E ≤ 12342) {m' : Nat → Int} : ∀ (k : Nat) (m : Nat → Int) (p : Nat) (h : mH) (v5 : Option Value), isM h x (mFs x f4 f6 f8 f9 f10 f11 f12 f13 f14 f16 f18 s) m kp was pool tape pln pap rwd rw → p ≤ 12343 → turnLoopR pool cl sh t E k m p m' → RUN G l (D + 4) mX11_turn 92 [some (.ref x), some (.int (J (t : Int))), some (.int (J (E : Int))), some (.int (J (p : Int))), some (.int (J 1)), v5] [] h (fun v h' => v = none ∧ isM h' x (mFs x f4 f6 f8 f9 f10 f11 f12 f13 f14 f16 f18 s) m' kp was pool tape pln pap rwd rw ∧ Same (mBlk x) h h') := by
  have fin : ∀ (m : Nat → Int) (p : Nat) (h : mH) (go : Int) (v5 : Option Value), isM h x (mFs x f4 f6 f8 f9 f10 f11 f12 f13 f14 f16 f18 s) m kp was pool tape pln pap rwd rw → turnFinR sh t E m p m' → RUN G l (D + 4) mX11_turn 182 [some (.ref x), some (.int (J (t : Int))), some (.int (J (E : Int))), some (.int (J (p : Int))), some (.int (J go)), v5] [] h (fun v h' => v = none ∧ isM h' x (mFs x f4 f6 f8 f9 f10 f11 f12 f13 f14 f16 f18 s) m' kp was pool tape pln pap rwd rw ∧ Same (mBlk x) h h') := fun m p h go v5 hB hR => (L_turnFin hD hsh ht hE hB hR).deeper (by omega)
  intro k
  induction k with
  | zero =>
    intro m p h v5 hB hp hL
    have hB0 := hB
    dsimp only [mFs] at hB
    refine r_iload (pc := 92) dX11_turn_92 rfl ?_
    refine rj_if_eq (pc := 94) (tgt := 182) dX11_turn_94 (by decide) (by first | assumption | exact b01_r | exact bz_r | omega | (constructor <;> omega) | exact hM _ | exact hPo _ | exact hTa _ | exact hRo _) (fun c_94 => ?_) (fun c_94 => ?_)
    · try simp only [b01_0, bz_0, Classical.not_not] at c_94
      all_goals (first | exact absurd trivial ‹¬ True› | (exfalso; omega))
    · try simp only [b01_0, bz_0, Classical.not_not] at c_94
      refine r_iload_n (pc := 97) dX11_turn_97 rfl ?_
      refine r_iload_n (pc := 98) dX11_turn_98 rfl ?_
      refine rj_icmp_ge (pc := 99) (tgt := 182) dX11_turn_99 (by decide) (by first | assumption | exact b01_r | exact bz_r | omega | (constructor <;> omega) | exact hM _ | exact hPo _ | exact hTa _ | exact hRo _) (by first | assumption | exact b01_r | exact bz_r | omega | (constructor <;> omega) | exact hM _ | exact hPo _ | exact hTa _ | exact hRo _) (fun c_99 => ?_) (fun c_99 => ?_)
      · exact fin m p h _ _ hB0 hL.2
      · exfalso; have := hL.1; omega
  | succ k ih =>
    intro m p h v5 hB hp hL
    have hB0 := hB
    rcases hL with ⟨hEp, hL⟩ | ⟨hpE, f, m1, hdo, hf, hM1, hL⟩
    · dsimp only [mFs] at hB
      refine r_iload (pc := 92) dX11_turn_92 rfl ?_
      refine rj_if_eq (pc := 94) (tgt := 182) dX11_turn_94 (by decide) (by first | assumption | exact b01_r | exact bz_r | omega | (constructor <;> omega) | exact hM _ | exact hPo _ | exact hTa _ | exact hRo _) (fun c_94 => ?_) (fun c_94 => ?_)
      · try simp only [b01_0, bz_0, Classical.not_not] at c_94
        all_goals (first | exact absurd trivial ‹¬ True› | (exfalso; omega))
      · try simp only [b01_0, bz_0, Classical.not_not] at c_94
        refine r_iload_n (pc := 97) dX11_turn_97 rfl ?_
        refine r_iload_n (pc := 98) dX11_turn_98 rfl ?_
        refine rj_icmp_ge (pc := 99) (tgt := 182) dX11_turn_99 (by decide) (by first | assumption | exact b01_r | exact bz_r | omega | (constructor <;> omega) | exact hM _ | exact hPo _ | exact hTa _ | exact hRo _) (by first | assumption | exact b01_r | exact bz_r | omega | (constructor <;> omega) | exact hM _ | exact hPo _ | exact hTa _ | exact hRo _) (fun c_99 => ?_) (fun c_99 => ?_)
        · exact fin m p h _ _ hB0 hL
        · exfalso; omega
    · dsimp only [mFs] at hB
      have rp := hPo p
      have hb := behL_r (pool := pool) (E - p) p 0
      rcases hL with ⟨hne, hL⟩ | ⟨rfl, hL⟩
      · refine r_iload (pc := 92) dX11_turn_92 rfl ?_
        refine rj_if_eq (pc := 94) (tgt := 182) dX11_turn_94 (by decide) (by first | assumption | exact b01_r | exact bz_r | omega | (constructor <;> omega) | exact hM _ | exact hPo _ | exact hTa _ | exact hRo _) (fun c_94 => ?_) (fun c_94 => ?_)
        · try simp only [b01_0, bz_0, Classical.not_not] at c_94
          all_goals (first | exact absurd trivial ‹¬ True› | (exfalso; omega))
        · try simp only [b01_0, bz_0, Classical.not_not] at c_94
          refine r_iload_n (pc := 97) dX11_turn_97 rfl ?_
          refine r_iload_n (pc := 98) dX11_turn_98 rfl ?_
          refine rj_icmp_ge (pc := 99) (tgt := 182) dX11_turn_99 (by decide) (by first | assumption | exact b01_r | exact bz_r | omega | (constructor <;> omega) | exact hM _ | exact hPo _ | exact hTa _ | exact hRo _) (by first | assumption | exact b01_r | exact bz_r | omega | (constructor <;> omega) | exact hM _ | exact hPo _ | exact hTa _ | exact hRo _) (fun c_99 => ?_) (fun c_99 => ?_)
          · exfalso; omega
          · refine r_aload_n (pc := 102) dX11_turn_102 rfl (by first | rfl | exact isRefV_rf _) ?_
            refine r_iload_n (pc := 103) dX11_turn_103 rfl ?_
            refine r_iload_n (pc := 104) dX11_turn_104 rfl ?_
            refine r_callV2 (pc := 105) dX11_turn_105 qX11_doesIn kX11_195 vX11_doesIn (by exact isM.gx (by assumption)) rfl rfl (Nat.le_of_ble_eq_true rfl) ((m_doesIn hD hPo hcl hsh hB0 hdo).deeper (by omega)) (fun v_105 h_105 q_105 => ?_)
            obtain ⟨rfl, hB_105, S_105⟩ := q_105
            refine r_istore (pc := 108) dX11_turn_108 (Nat.le_of_ble_eq_true rfl) ?_
            dsimp only [lsSt, List.set, mLs, mEnt]
            refine r_iload (pc := 110) dX11_turn_110 rfl ?_
            refine rj_if_eq (pc := 112) (tgt := 136) dX11_turn_112 (by decide) (by first | assumption | exact b01_r | exact bz_r | omega | (constructor <;> omega) | exact hM _ | exact hPo _ | exact hTa _ | exact hRo _) (fun c_112 => ?_) (fun c_112 => ?_)
            · try simp only [b01_0, bz_0, Classical.not_not] at c_112
              exact absurd c_112 hne
            · try simp only [b01_0, bz_0, Classical.not_not] at c_112
              refine r_aload_n (pc := 115) dX11_turn_115 rfl (by first | rfl | exact isRefV_rf _) ?_
              refine rm_getf (pc := 116) dX11_turn_116 fX11_11 (by assumption) rfl ?_
              refine r_iload_n (pc := 119) dX11_turn_119 rfl ?_
              refine rj_bipush (pc := 120) dX11_turn_120 (by decide +kernel) ?_
              refine rj_iconst (pc := 122) dX11_turn_122 ?_
              refine r_callS3 (pc := 123) dX11_turn_123 qX11_ofTask kX11_58 sX11_ofTask (Nat.le_of_ble_eq_true rfl) (m_ofTask _) (fun v_123 h_123 q_123 => ?_)
              obtain ⟨rfl, rfl⟩ := q_123
              refine r_iload (pc := 126) dX11_turn_126 rfl ?_
              first | refine rm_iast0 (pc := 128) (j := 1618 + 72 * t) dX11_turn_128 (by assumption) (by first | assumption | exact b01_r | exact bz_r | omega | (constructor <;> omega) | exact hM _ | exact hPo _ | exact hTa _ | exact hRo _) (by first | assumption | exact b01_r | exact bz_r | omega | (constructor <;> omega) | exact hM _ | exact hPo _ | exact hTa _ | exact hRo _) (by first | assumption | exact b01_r | exact bz_r | omega | (constructor <;> omega) | exact hM _ | exact hPo _ | exact hTa _ | exact hRo _) (by omega) (fun h_128 hB_128 hS_128 => ?_)
              refine r_aload_n (pc := 129) dX11_turn_129 rfl (by first | rfl | exact isRefV_rf _) ?_
              refine r_iload_n (pc := 130) dX11_turn_130 rfl ?_
              refine rj_iconst (pc := 131) dX11_turn_131 ?_
              refine r_callV2 (pc := 132) dX11_turn_132 qX11_isOver kX11_192 vX11_isOver (by exact isM.gx (by assumption)) rfl rfl (Nat.le_of_ble_eq_true rfl) ((m_isOver hD hsh hB_128 hL).deeper (by omega)) (fun v_132 h_132 q_132 => ?_)
              obtain ⟨rfl, hB_132, S_132⟩ := q_132
              refine r_return (pc := 135) dX11_turn_135 rfl ?_
              exact ⟨rfl, hB_132, (S_105.trans hS_128).trans S_132⟩
      · refine r_iload (pc := 92) dX11_turn_92 rfl ?_
        refine rj_if_eq (pc := 94) (tgt := 182) dX11_turn_94 (by decide) (by first | assumption | exact b01_r | exact bz_r | omega | (constructor <;> omega) | exact hM _ | exact hPo _ | exact hTa _ | exact hRo _) (fun c_94 => ?_) (fun c_94 => ?_)
        · try simp only [b01_0, bz_0, Classical.not_not] at c_94
          all_goals (first | exact absurd trivial ‹¬ True› | (exfalso; omega))
        · try simp only [b01_0, bz_0, Classical.not_not] at c_94
          refine r_iload_n (pc := 97) dX11_turn_97 rfl ?_
          refine r_iload_n (pc := 98) dX11_turn_98 rfl ?_
          refine rj_icmp_ge (pc := 99) (tgt := 182) dX11_turn_99 (by decide) (by first | assumption | exact b01_r | exact bz_r | omega | (constructor <;> omega) | exact hM _ | exact hPo _ | exact hTa _ | exact hRo _) (by first | assumption | exact b01_r | exact bz_r | omega | (constructor <;> omega) | exact hM _ | exact hPo _ | exact hTa _ | exact hRo _) (fun c_99 => ?_) (fun c_99 => ?_)
          · exfalso; omega
          · refine r_aload_n (pc := 102) dX11_turn_102 rfl (by first | rfl | exact isRefV_rf _) ?_
            refine r_iload_n (pc := 103) dX11_turn_103 rfl ?_
            refine r_iload_n (pc := 104) dX11_turn_104 rfl ?_
            refine r_callV2 (pc := 105) dX11_turn_105 qX11_doesIn kX11_195 vX11_doesIn (by exact isM.gx (by assumption)) rfl rfl (Nat.le_of_ble_eq_true rfl) ((m_doesIn hD hPo hcl hsh hB0 hdo).deeper (by omega)) (fun v_105 h_105 q_105 => ?_)
            obtain ⟨rfl, hB_105, S_105⟩ := q_105
            refine r_istore (pc := 108) dX11_turn_108 (Nat.le_of_ble_eq_true rfl) ?_
            dsimp only [lsSt, List.set, mLs, mEnt]
            refine r_iload (pc := 110) dX11_turn_110 rfl ?_
            refine rj_if_eq (pc := 112) (tgt := 136) dX11_turn_112 (by decide) (by first | assumption | exact b01_r | exact bz_r | omega | (constructor <;> omega) | exact hM _ | exact hPo _ | exact hTa _ | exact hRo _) (fun c_112 => ?_) (fun c_112 => ?_)
            · try simp only [b01_0, bz_0, Classical.not_not] at c_112
              refine r_aload_n (pc := 136) dX11_turn_136 rfl (by first | rfl | exact isRefV_rf _) ?_
              refine rm_getf (pc := 137) dX11_turn_137 fX11_11 (by assumption) rfl ?_
              refine r_iload_n (pc := 140) dX11_turn_140 rfl ?_
              refine rj_bipush (pc := 141) dX11_turn_141 (by decide +kernel) ?_
              refine rj_iconst (pc := 143) dX11_turn_143 ?_
              refine r_callS3 (pc := 144) dX11_turn_144 qX11_ofTask kX11_58 sX11_ofTask (Nat.le_of_ble_eq_true rfl) (m_ofTask _) (fun v_144 h_144 q_144 => ?_)
              obtain ⟨rfl, rfl⟩ := q_144
              refine r_dup2 (pc := 147) dX11_turn_147 rfl rfl ?_
              refine rj_iald (pc := 148) (j := 1615 + 72 * t) dX11_turn_148 (by first | exact isM.g0 (by assumption) | exact isM.g3 (by assumption) | exact isM.g4 (by assumption) | exact isM.g8 (by assumption) | exact isM.g7 (by assumption) | exact isM.g6 (by assumption) | exact isM.g5 (by assumption) | exact isM.g1 (by assumption) | exact isM.g2 (by assumption)) (by first | assumption | exact b01_r | exact bz_r | omega | (constructor <;> omega) | exact hM _ | exact hPo _ | exact hTa _ | exact hRo _) (by first | assumption | exact b01_r | exact bz_r | omega | (constructor <;> omega) | exact hM _ | exact hPo _ | exact hTa _ | exact hRo _) (by first | assumption | exact b01_r | exact bz_r | omega | (constructor <;> omega) | exact hM _ | exact hPo _ | exact hTa _ | exact hRo _) (by omega) ?_
              refine rj_iconst (pc := 149) dX11_turn_149 ?_
              refine rj_iadd (pc := 150) dX11_turn_150 ?_
              first | refine rm_iast0 (pc := 151) (j := 1615 + 72 * t) dX11_turn_151 (by assumption) (by first | assumption | exact b01_r | exact bz_r | omega | (constructor <;> omega) | exact hM _ | exact hPo _ | exact hTa _ | exact hRo _) (by first | assumption | exact b01_r | exact bz_r | omega | (constructor <;> omega) | exact hM _ | exact hPo _ | exact hTa _ | exact hRo _) (by first | assumption | exact b01_r | exact bz_r | omega | (constructor <;> omega) | exact hM _ | exact hPo _ | exact hTa _ | exact hRo _) (by omega) (fun h_151 hB_151 hS_151 => ?_)
              refine r_aload_n (pc := 152) dX11_turn_152 rfl (by first | rfl | exact isRefV_rf _) ?_
              refine rm_getf (pc := 153) dX11_turn_153 fX11_21 (by assumption) rfl ?_
              refine r_iload_n (pc := 156) dX11_turn_156 rfl ?_
              refine rj_iald (pc := 157) (j := p) dX11_turn_157 (by first | exact isM.g0 (by assumption) | exact isM.g3 (by assumption) | exact isM.g4 (by assumption) | exact isM.g8 (by assumption) | exact isM.g7 (by assumption) | exact isM.g6 (by assumption) | exact isM.g5 (by assumption) | exact isM.g1 (by assumption) | exact isM.g2 (by assumption)) (by first | assumption | exact b01_r | exact bz_r | omega | (constructor <;> omega) | exact hM _ | exact hPo _ | exact hTa _ | exact hRo _) (by first | assumption | exact b01_r | exact bz_r | omega | (constructor <;> omega) | exact hM _ | exact hPo _ | exact hTa _ | exact hRo _) (by first | assumption | exact b01_r | exact bz_r | omega | (constructor <;> omega) | exact hM _ | exact hPo _ | exact hTa _ | exact hRo _) (by omega) ?_
              refine rj_bipush (pc := 158) dX11_turn_158 (by decide +kernel) ?_
              refine rj_icmp_eq (pc := 160) (tgt := 167) dX11_turn_160 (by decide) (by first | assumption | exact b01_r | exact bz_r | omega | (constructor <;> omega) | exact hM _ | exact hPo _ | exact hTa _ | exact hRo _) (by first | assumption | exact b01_r | exact bz_r | omega | (constructor <;> omega) | exact hM _ | exact hPo _ | exact hTa _ | exact hRo _) (fun c_160 => ?_) (fun c_160 => ?_)
              · refine rj_iconst (pc := 167) dX11_turn_167 ?_
                refine r_istore (pc := 168) dX11_turn_168 (Nat.le_of_ble_eq_true rfl) ?_
                dsimp only [lsSt, List.set, mLs, mEnt]
                refine r_aload_n (pc := 170) dX11_turn_170 rfl (by first | rfl | exact isRefV_rf _) ?_
                refine r_iload_n (pc := 171) dX11_turn_171 rfl ?_
                refine r_iload_n (pc := 172) dX11_turn_172 rfl ?_
                refine r_callV2 (pc := 173) dX11_turn_173 qX11_behind kX11_139 vX11_behind (by exact isM.gx (by assumption)) rfl rfl (Nat.le_of_ble_eq_true rfl) ((m_behind (G := G) (l := l) 0 hB_151 hPo (p := p) (E := E) (by omega) hE).deeper (by omega)) (fun v_173 h_173 q_173 => ?_)
                obtain ⟨rfl, rfl⟩ := q_173
                refine rj_iconst (pc := 176) dX11_turn_176 ?_
                refine rj_iadd (pc := 177) dX11_turn_177 ?_
                refine r_istore_n (pc := 178) dX11_turn_178 (Nat.le_of_ble_eq_true rfl) ?_
                dsimp only [lsSt, List.set, mLs, mEnt]
                refine r_goto (pc := 179) (tgt := 92) dX11_turn_179 (by decide) ?_
                rcases hL with ⟨hk, hL⟩ | ⟨hk, hL⟩
                · refine RUN.mono (L_goes0 (G := G) (l := l) (fin _ (behL pool (E - p) p 0 + 1) _ 0 _ hB_151 hL)) (fun v h' q => ⟨q.1, q.2.1, (S_105.trans hS_151).trans q.2.2⟩)
                · exact absurd c_160 hk
              · refine rj_iconst (pc := 163) dX11_turn_163 ?_
                refine r_goto (pc := 164) (tgt := 168) dX11_turn_164 (by decide) ?_
                refine r_istore (pc := 168) dX11_turn_168 (Nat.le_of_ble_eq_true rfl) ?_
                dsimp only [lsSt, List.set, mLs, mEnt]
                refine r_aload_n (pc := 170) dX11_turn_170 rfl (by first | rfl | exact isRefV_rf _) ?_
                refine r_iload_n (pc := 171) dX11_turn_171 rfl ?_
                refine r_iload_n (pc := 172) dX11_turn_172 rfl ?_
                refine r_callV2 (pc := 173) dX11_turn_173 qX11_behind kX11_139 vX11_behind (by exact isM.gx (by assumption)) rfl rfl (Nat.le_of_ble_eq_true rfl) ((m_behind (G := G) (l := l) 0 hB_151 hPo (p := p) (E := E) (by omega) hE).deeper (by omega)) (fun v_173 h_173 q_173 => ?_)
                obtain ⟨rfl, rfl⟩ := q_173
                refine rj_iconst (pc := 176) dX11_turn_176 ?_
                refine rj_iadd (pc := 177) dX11_turn_177 ?_
                refine r_istore_n (pc := 178) dX11_turn_178 (Nat.le_of_ble_eq_true rfl) ?_
                dsimp only [lsSt, List.set, mLs, mEnt]
                refine r_goto (pc := 179) (tgt := 92) dX11_turn_179 (by decide) ?_
                rcases hL with ⟨hk, hL⟩ | ⟨hk, hL⟩
                · exact absurd hk c_160
                · exact (ih _ (behL pool (E - p) p 0 + 1) _ _ hB_151 (by omega) hL).mono (fun v h' q => ⟨q.1, q.2.1, (S_105.trans hS_151).trans q.2.2⟩)
            · try simp only [b01_0, bz_0, Classical.not_not] at c_112
              all_goals (first | exact absurd trivial ‹¬ True› | (exfalso; omega))
set_option maxHeartbeats 4000000 in
set_option maxRecDepth 100000 in
theorem L_turn0 {G : mG} {l : Launch} {D : Nat} {x s : Nat} {f4 f6 f8 f9 f10 f11 f12 f13 f14 f16 f18 : Int} {kp was pool tape pln pap rwd rw : Nat → Int} {t : Nat} {m : Nat → Int} {h : mH} (hB : isM h x (mFs x f4 f6 f8 f9 f10 f11 f12 f13 f14 f16 f18 s) m kp was pool tape pln pap rwd rw) (ht : t ≤ 9) {Q : Option Value → mH → Prop} (K : ∀ h1, isM h1 x (mFs x f4 f6 f8 f9 f10 f11 f12 f13 (t : Int) f16 f18 s) (turnM m t) kp was pool tape pln pap rwd rw → Same (mBlk x) h h1 → RUN G l (D + 1) mX11_turn 49 [some (.ref x), some (.int (J (t : Int))), none, none, none, none] [] h1 Q) : RUN G l (D + 1) mX11_turn 0 [some (.ref x), some (.int (J (t : Int))), none, none, none, none] [] h Q := by
  have hB0 := hB
  dsimp only [mFs] at hB
  have e1 : updI m 7 (m 7 + 1) (1612 + 72 * t) = m (1612 + 72 * t) := updI_n (by omega)
  have e2 : updI (updI m 7 (m 7 + 1)) (1612 + 72 * t) (m (1612 + 72 * t) + 1) 7 = m 7 + 1 := (updI_n (by omega)).trans updI_s
  refine r_aload_n (pc := 0) dX11_turn_0 rfl (by first | rfl | exact isRefV_rf _) ?_
  refine r_iload_n (pc := 1) dX11_turn_1 rfl ?_
  refine rm_putf (pc := 2) dX11_turn_2 fX11_133 (by assumption) rfl rfl (Nat.le_of_ble_eq_true rfl) (fun h_2 hB_2 hS_2 => ?_)
  dsimp only [List.set, mFs] at hB_2
  refine r_aload_n (pc := 5) dX11_turn_5 rfl (by first | rfl | exact isRefV_rf _) ?_
  refine rm_getf (pc := 6) dX11_turn_6 fX11_11 (by assumption) rfl ?_
  refine rj_bipush (pc := 9) dX11_turn_9 (by decide +kernel) ?_
  refine r_dup2 (pc := 11) dX11_turn_11 rfl rfl ?_
  refine rj_iald (pc := 12) (j := 7) dX11_turn_12 (by first | exact isM.g0 (by assumption) | exact isM.g3 (by assumption) | exact isM.g4 (by assumption) | exact isM.g8 (by assumption) | exact isM.g7 (by assumption) | exact isM.g6 (by assumption) | exact isM.g5 (by assumption) | exact isM.g1 (by assumption) | exact isM.g2 (by assumption)) (by first | assumption | exact b01_r | exact bz_r | omega | (constructor <;> omega) | exact hM _ | exact hPo _ | exact hTa _ | exact hRo _) (by first | assumption | exact b01_r | exact bz_r | omega | (constructor <;> omega) | exact hM _ | exact hPo _ | exact hTa _ | exact hRo _) (by first | assumption | exact b01_r | exact bz_r | omega | (constructor <;> omega) | exact hM _ | exact hPo _ | exact hTa _ | exact hRo _) (by omega) ?_
  refine rj_iconst (pc := 13) dX11_turn_13 ?_
  refine rj_iadd (pc := 14) dX11_turn_14 ?_
  first | refine rm_iast0 (pc := 15) (j := 7) dX11_turn_15 (by assumption) (by first | assumption | exact b01_r | exact bz_r | omega | (constructor <;> omega) | exact hM _ | exact hPo _ | exact hTa _ | exact hRo _) (by first | assumption | exact b01_r | exact bz_r | omega | (constructor <;> omega) | exact hM _ | exact hPo _ | exact hTa _ | exact hRo _) (by first | assumption | exact b01_r | exact bz_r | omega | (constructor <;> omega) | exact hM _ | exact hPo _ | exact hTa _ | exact hRo _) (by omega) (fun h_15 hB_15 hS_15 => ?_)
  refine r_aload_n (pc := 16) dX11_turn_16 rfl (by first | rfl | exact isRefV_rf _) ?_
  refine rm_getf (pc := 17) dX11_turn_17 fX11_11 (by assumption) rfl ?_
  refine r_iload_n (pc := 20) dX11_turn_20 rfl ?_
  refine rj_iconst (pc := 21) dX11_turn_21 ?_
  refine rj_iconst (pc := 22) dX11_turn_22 ?_
  refine r_callS3 (pc := 23) dX11_turn_23 qX11_ofTask kX11_58 sX11_ofTask (Nat.le_of_ble_eq_true rfl) (m_ofTask _) (fun v_23 h_23 q_23 => ?_)
  obtain ⟨rfl, rfl⟩ := q_23
  refine r_dup2 (pc := 26) dX11_turn_26 rfl rfl ?_
  refine rj_iald (pc := 27) (j := 1612 + 72 * t) dX11_turn_27 (by first | exact isM.g0 (by assumption) | exact isM.g3 (by assumption) | exact isM.g4 (by assumption) | exact isM.g8 (by assumption) | exact isM.g7 (by assumption) | exact isM.g6 (by assumption) | exact isM.g5 (by assumption) | exact isM.g1 (by assumption) | exact isM.g2 (by assumption)) (by first | assumption | exact b01_r | exact bz_r | omega | (constructor <;> omega) | exact hM _ | exact hPo _ | exact hTa _ | exact hRo _) (by first | assumption | exact b01_r | exact bz_r | omega | (constructor <;> omega) | exact hM _ | exact hPo _ | exact hTa _ | exact hRo _) (by first | assumption | exact b01_r | exact bz_r | omega | (constructor <;> omega) | exact hM _ | exact hPo _ | exact hTa _ | exact hRo _) (by omega) ?_
  rw [e1]
  refine rj_iconst (pc := 28) dX11_turn_28 ?_
  refine rj_iadd (pc := 29) dX11_turn_29 ?_
  first | refine rm_iast0 (pc := 30) (j := 1612 + 72 * t) dX11_turn_30 (by assumption) (by first | assumption | exact b01_r | exact bz_r | omega | (constructor <;> omega) | exact hM _ | exact hPo _ | exact hTa _ | exact hRo _) (by first | assumption | exact b01_r | exact bz_r | omega | (constructor <;> omega) | exact hM _ | exact hPo _ | exact hTa _ | exact hRo _) (by first | assumption | exact b01_r | exact bz_r | omega | (constructor <;> omega) | exact hM _ | exact hPo _ | exact hTa _ | exact hRo _) (by omega) (fun h_30 hB_30 hS_30 => ?_)
  refine r_aload_n (pc := 31) dX11_turn_31 rfl (by first | rfl | exact isRefV_rf _) ?_
  refine rm_getf (pc := 32) dX11_turn_32 fX11_11 (by assumption) rfl ?_
  refine r_iload_n (pc := 35) dX11_turn_35 rfl ?_
  refine rj_iconst (pc := 36) dX11_turn_36 ?_
  refine rj_iconst (pc := 37) dX11_turn_37 ?_
  refine r_callS3 (pc := 38) dX11_turn_38 qX11_ofTask kX11_58 sX11_ofTask (Nat.le_of_ble_eq_true rfl) (m_ofTask _) (fun v_38 h_38 q_38 => ?_)
  obtain ⟨rfl, rfl⟩ := q_38
  refine r_aload_n (pc := 41) dX11_turn_41 rfl (by first | rfl | exact isRefV_rf _) ?_
  refine rm_getf (pc := 42) dX11_turn_42 fX11_11 (by assumption) rfl ?_
  refine rj_bipush (pc := 45) dX11_turn_45 (by decide +kernel) ?_
  refine rj_iald (pc := 47) (j := 7) dX11_turn_47 (by first | exact isM.g0 (by assumption) | exact isM.g3 (by assumption) | exact isM.g4 (by assumption) | exact isM.g8 (by assumption) | exact isM.g7 (by assumption) | exact isM.g6 (by assumption) | exact isM.g5 (by assumption) | exact isM.g1 (by assumption) | exact isM.g2 (by assumption)) (by first | assumption | exact b01_r | exact bz_r | omega | (constructor <;> omega) | exact hM _ | exact hPo _ | exact hTa _ | exact hRo _) (by first | assumption | exact b01_r | exact bz_r | omega | (constructor <;> omega) | exact hM _ | exact hPo _ | exact hTa _ | exact hRo _) (by first | assumption | exact b01_r | exact bz_r | omega | (constructor <;> omega) | exact hM _ | exact hPo _ | exact hTa _ | exact hRo _) (by omega) ?_
  rw [e2]
  first | refine rm_iast0 (pc := 48) (j := 1613 + 72 * t) dX11_turn_48 (by assumption) (by first | assumption | exact b01_r | exact bz_r | omega | (constructor <;> omega) | exact hM _ | exact hPo _ | exact hTa _ | exact hRo _) (by first | assumption | exact b01_r | exact bz_r | omega | (constructor <;> omega) | exact hM _ | exact hPo _ | exact hTa _ | exact hRo _) (by first | assumption | exact b01_r | exact bz_r | omega | (constructor <;> omega) | exact hM _ | exact hPo _ | exact hTa _ | exact hRo _) (by omega) (fun h_48 hB_48 hS_48 => ?_)
  exact K _ hB_48 (((hS_2.trans hS_15).trans hS_30).trans hS_48)
set_option maxHeartbeats 4000000 in
set_option maxRecDepth 100000 in
theorem m_turn {G : mG} {l : Launch} {D : Nat} (hD : 280 ≤ D) {x s : Nat} {f4 f6 f8 f9 f10 f11 f12 f13 f14 f16 f18 : Int} {kp was pool tape pln pap rwd rw : Nat → Int} (hPo : ∀ q, InR (pool q)) {cl : (Nat → Int) → Nat → (Nat → Int) → Prop} {sh : (Nat → Int) → Int → (Nat → Int) → Prop} {t : Nat} (hcl : ∀ (m1 m2 : Nat → Int) (u : Nat) (h : mH), isM h x (mFs x f4 f6 f8 f9 f10 f11 f12 f13 (t : Int) f16 f18 s) m1 kp was pool tape pln pap rwd rw → cl m1 u m2 → RUNM G l D mX11_closes [.ref x, .int (J (u : Int))] h (fun v h' => v = none ∧ isM h' x (mFs x f4 f6 f8 f9 f10 f11 f12 f13 (t : Int) f16 f18 s) m2 kp was pool tape pln pap rwd rw ∧ Same (mBlk x) h h')) (hsh : ∀ (m1 m2 : Nat → Int) (e : Int) (h : mH), isM h x (mFs x f4 f6 f8 f9 f10 f11 f12 f13 (t : Int) f16 f18 s) m1 kp was pool tape pln pap rwd rw → sh m1 e m2 → RUNM G l D mX11_shuts [.ref x, .int (J e)] h (fun v h' => v = none ∧ isM h' x (mFs x f4 f6 f8 f9 f10 f11 f12 f13 (t : Int) f16 f18 s) m2 kp was pool tape pln pap rwd rw ∧ Same (mBlk x) h h')) {m m' : Nat → Int} {h : mH} (hB : isM h x (mFs x f4 f6 f8 f9 f10 f11 f12 f13 f14 f16 f18 s) m kp was pool tape pln pap rwd rw) (hR : turnR pool cl sh m t m') : RUNM G l (D + 5) mX11_turn [.ref x, .int (J (t : Int))] h (fun v h' => v = none ∧ isM h' x (mFs x f4 f6 f8 f9 f10 f11 f12 f13 (t : Int) f16 f18 s) m' kp was pool tape pln pap rwd rw ∧ Same (mBlk x) h h') := by
  obtain ⟨ht, hok, ⟨n, hn, hc⟩, hR⟩ := hR
  obtain ⟨hM, k0, k1, k2, k3, k4, k5, k7⟩ := id hok
  have hB0 := hB
  dsimp only [mFs] at hB
  have e1 : updI m 7 (m 7 + 1) (1612 + 72 * t) = m (1612 + 72 * t) := updI_n (by omega)
  have e2 : updI (updI m 7 (m 7 + 1)) (1612 + 72 * t) (m (1612 + 72 * t) + 1) 7 = m 7 + 1 := (updI_n (by omega)).trans updI_s
  have e3 : turnM m t (1619 + 72 * t) = n := by unfold turnM; rw [updI_n (by omega), updI_n (by omega), updI_n (by omega)]; exact hc
  refine RUNM.of (by decide +kernel) (Nat.le_of_ble_eq_true rfl) ?_
  refine L_turn0 hB0 ht ?_
  intro h1 hB1 hS1
  have hB2 := hB1
  dsimp only [mFs] at hB2
  have fi : RUNM G l (D + 3) mX11_isFine [.ref x, .int (J (t : Int))] h1 (fun v h' => v = some (.int (J (bz (fineV (turnM m t) t)))) ∧ h' = h1) := (m_isFine 0 hB1 hM k0 (by omega) (by omega) (by rw [show (1619 + 72 * (t : Int)).toNat = 1619 + 72 * t by omega, e3]; omega)).deeper (by omega)
  rcases hR with ⟨hf, hR⟩ | ⟨hf, p, E, k, hE, hp, hE2, hp2, hL⟩
  · refine r_aload_n (pc := 49) dX11_turn_49 rfl (by first | rfl | exact isRefV_rf _) ?_
    refine r_iload_n (pc := 50) dX11_turn_50 rfl ?_
    refine r_callV1 (pc := 51) dX11_turn_51 qX11_isFine kX11_189 vX11_isFine (by exact isM.gx (by assumption)) rfl rfl (Nat.le_of_ble_eq_true rfl) (fi.deeper (by omega)) (fun v_51 h_51 q_51 => ?_)
    obtain ⟨rfl, rfl⟩ := q_51
    refine rj_if_ne (pc := 54) (tgt := 64) dX11_turn_54 (by decide) (by first | assumption | exact b01_r | exact bz_r | omega | (constructor <;> omega) | exact hM _ | exact hPo _ | exact hTa _ | exact hRo _) (fun c_54 => ?_) (fun c_54 => ?_)
    · try simp only [b01_0, bz_0, Classical.not_not] at c_54
      rw [hf] at c_54; exact absurd c_54 (by decide)
    · try simp only [b01_0, bz_0, Classical.not_not] at c_54
      refine r_aload_n (pc := 57) dX11_turn_57 rfl (by first | rfl | exact isRefV_rf _) ?_
      refine r_iload_n (pc := 58) dX11_turn_58 rfl ?_
      refine rj_iconst (pc := 59) dX11_turn_59 ?_
      refine r_callV2 (pc := 60) dX11_turn_60 qX11_isOver kX11_192 vX11_isOver (by exact isM.gx (by assumption)) rfl rfl (Nat.le_of_ble_eq_true rfl) ((m_isOver hD hsh hB1 hR).deeper (by omega)) (fun v_60 h_60 q_60 => ?_)
      obtain ⟨rfl, hB_60, S_60⟩ := q_60
      refine r_return (pc := 63) dX11_turn_63 rfl ?_
      exact ⟨rfl, hB_60, hS1.trans S_60⟩
  · have f1 : turnM m t (1617 + 72 * t) = E := by unfold turnM; rw [updI_n (by omega), updI_n (by omega), updI_n (by omega)]; exact hE
    have f2 : turnM m t (1611 + 72 * t) = p := by unfold turnM; rw [updI_n (by omega), updI_n (by omega), updI_n (by omega)]; exact hp
    refine r_aload_n (pc := 49) dX11_turn_49 rfl (by first | rfl | exact isRefV_rf _) ?_
    refine r_iload_n (pc := 50) dX11_turn_50 rfl ?_
    refine r_callV1 (pc := 51) dX11_turn_51 qX11_isFine kX11_189 vX11_isFine (by exact isM.gx (by assumption)) rfl rfl (Nat.le_of_ble_eq_true rfl) (fi.deeper (by omega)) (fun v_51 h_51 q_51 => ?_)
    obtain ⟨rfl, rfl⟩ := q_51
    refine rj_if_ne (pc := 54) (tgt := 64) dX11_turn_54 (by decide) (by first | assumption | exact b01_r | exact bz_r | omega | (constructor <;> omega) | exact hM _ | exact hPo _ | exact hTa _ | exact hRo _) (fun c_54 => ?_) (fun c_54 => ?_)
    · try simp only [b01_0, bz_0, Classical.not_not] at c_54
      refine r_aload_n (pc := 64) dX11_turn_64 rfl (by first | rfl | exact isRefV_rf _) ?_
      refine rm_getf (pc := 65) dX11_turn_65 fX11_11 (by assumption) rfl ?_
      refine r_iload_n (pc := 68) dX11_turn_68 rfl ?_
      refine rj_bipush (pc := 69) dX11_turn_69 (by decide +kernel) ?_
      refine rj_iconst (pc := 71) dX11_turn_71 ?_
      refine r_callS3 (pc := 72) dX11_turn_72 qX11_ofTask kX11_58 sX11_ofTask (Nat.le_of_ble_eq_true rfl) (m_ofTask _) (fun v_72 h_72 q_72 => ?_)
      obtain ⟨rfl, rfl⟩ := q_72
      refine rj_iald (pc := 75) (j := 1617 + 72 * t) dX11_turn_75 (by first | exact isM.g0 (by assumption) | exact isM.g3 (by assumption) | exact isM.g4 (by assumption) | exact isM.g8 (by assumption) | exact isM.g7 (by assumption) | exact isM.g6 (by assumption) | exact isM.g5 (by assumption) | exact isM.g1 (by assumption) | exact isM.g2 (by assumption)) (by first | assumption | exact b01_r | exact bz_r | omega | (constructor <;> omega) | exact hM _ | exact hPo _ | exact hTa _ | exact hRo _) (by first | assumption | exact b01_r | exact bz_r | omega | (constructor <;> omega) | exact hM _ | exact hPo _ | exact hTa _ | exact hRo _) (by first | assumption | exact b01_r | exact bz_r | omega | (constructor <;> omega) | exact hM _ | exact hPo _ | exact hTa _ | exact hRo _) (by omega) ?_
      rw [f1]
      refine r_istore_n (pc := 76) dX11_turn_76 (Nat.le_of_ble_eq_true rfl) ?_
      dsimp only [lsSt, List.set, mLs, mEnt]
      refine r_aload_n (pc := 77) dX11_turn_77 rfl (by first | rfl | exact isRefV_rf _) ?_
      refine rm_getf (pc := 78) dX11_turn_78 fX11_11 (by assumption) rfl ?_
      refine r_iload_n (pc := 81) dX11_turn_81 rfl ?_
      refine rj_iconst (pc := 82) dX11_turn_82 ?_
      refine rj_iconst (pc := 83) dX11_turn_83 ?_
      refine r_callS3 (pc := 84) dX11_turn_84 qX11_ofTask kX11_58 sX11_ofTask (Nat.le_of_ble_eq_true rfl) (m_ofTask _) (fun v_84 h_84 q_84 => ?_)
      obtain ⟨rfl, rfl⟩ := q_84
      refine rj_iald (pc := 87) (j := 1611 + 72 * t) dX11_turn_87 (by first | exact isM.g0 (by assumption) | exact isM.g3 (by assumption) | exact isM.g4 (by assumption) | exact isM.g8 (by assumption) | exact isM.g7 (by assumption) | exact isM.g6 (by assumption) | exact isM.g5 (by assumption) | exact isM.g1 (by assumption) | exact isM.g2 (by assumption)) (by first | assumption | exact b01_r | exact bz_r | omega | (constructor <;> omega) | exact hM _ | exact hPo _ | exact hTa _ | exact hRo _) (by first | assumption | exact b01_r | exact bz_r | omega | (constructor <;> omega) | exact hM _ | exact hPo _ | exact hTa _ | exact hRo _) (by first | assumption | exact b01_r | exact bz_r | omega | (constructor <;> omega) | exact hM _ | exact hPo _ | exact hTa _ | exact hRo _) (by omega) ?_
      rw [f2]
      refine r_istore_n (pc := 88) dX11_turn_88 (Nat.le_of_ble_eq_true rfl) ?_
      dsimp only [lsSt, List.set, mLs, mEnt]
      refine rj_iconst (pc := 89) dX11_turn_89 ?_
      refine r_istore (pc := 90) dX11_turn_90 (Nat.le_of_ble_eq_true rfl) ?_
      dsimp only [lsSt, List.set, mLs, mEnt]
      exact ((L_turn hD hPo hcl hsh ht hE2 k _ p _ _ hB1 hp2 hL).deeper (by omega)).mono (fun v h' q => ⟨q.1, q.2.1, hS1.trans q.2.2⟩)
    · try simp only [b01_0, bz_0, Classical.not_not] at c_54
      rw [hf] at c_54; exact absurd c_54 (by decide)
/-- which task has the next turn -/
def nextV (m : Nat → Int) : Int := nxL m (m 3).toNat 0 (-5)
def tickR (pool : Nat → Int) (m : Nat → Int) (m' : Nat → Int) : Prop :=
  mOk m ∧ (∀ t : Nat, (t : Int) < m 3 → -99 ≤ m (1609 + 72 * t) ∧ m (1609 + 72 * t) ≤ 99) ∧ ((nextV m < 0 ∧ m' = m) ∨ (0 ≤ nextV m ∧ turnR pool (closesR pool (nextV m) 91) (shutsR pool (nextV m) 61) m (nextV m).toNat m'))
theorem nxL_v {m : Nat → Int} : ∀ (n t : Nat) (f : Int), (f = -5 ∨ (0 ≤ f ∧ f < t)) → (nxL m n t f = -5 ∨ (0 ≤ nxL m n t f ∧ nxL m n t f < t + n))
  | 0, t, f, h => by unfold nxL; omega
  | n + 1, t, f, h => by
    unfold nxL
    have := nxL_v (m := m) n (t + 1) (if readyB m t = true ∧ (f < 0 ∨ aheadP m t f.toNat) then (t : Int) else f) (by split <;> omega)
    omega
theorem nextV_r {m : Nat → Int} (hok : mOk m) : nextV m = -5 ∨ (0 ≤ nextV m ∧ nextV m < m 3) := by
  have k3 := hok.2.2.2.2.1
  have := nxL_v (m := m) (m 3).toNat 0 (-5) (Or.inl rfl)
  unfold nextV
  omega
def sinkV (m : Nat → Int) (f14 : Int) : Int := if 0 ≤ nextV m then nextV m else f14
set_option maxHeartbeats 4000000 in
set_option maxRecDepth 100000 in
theorem m_tick {G : mG} {l : Launch} {x s : Nat} {f4 f6 f8 f9 f10 f11 f12 f13 f14 f16 f18 : Int} {kp was pool tape pln pap rwd rw : Nat → Int} (hPo : ∀ q, InR (pool q)) {m m' : Nat → Int} {h : mH} (hB : isM h x (mFs x f4 f6 f8 f9 f10 f11 f12 f13 f14 f16 f18 s) m kp was pool tape pln pap rwd rw) (hR : tickR pool m m') : RUNM G l 400 mX11_tick [.ref x] h (fun v h' => v = some (.int (J (nextV m))) ∧ isM h' x (mFs x f4 f6 f8 f9 f10 f11 f12 f13 (sinkV m f14) f16 f18 s) m' kp was pool tape pln pap rwd rw ∧ Same (mBlk x) h h') := by
  obtain ⟨hok, hP, hR⟩ := hR
  obtain ⟨hM, k0, k1, k2, k3, k4, k5, k7⟩ := id hok
  have rn := nextV_r hok
  have hB0 := hB
  dsimp only [mFs] at hB
  have fx := m_next (G := G) (l := l) 0 hB0 hM (N := (m 3).toNat) (by omega) (by omega) (fun t ht => hP t (by omega))
  rw [show nxL m (m 3).toNat 0 (-5) = nextV m from rfl] at fx
  refine RUNM.of (by decide +kernel) (Nat.le_of_ble_eq_true rfl) ?_
  rcases hR with ⟨hn, rfl⟩ | ⟨hn, hR⟩
  · rw [show sinkV m' f14 = f14 from if_neg (by omega)]
    refine r_aload_n (pc := 0) dX11_tick_0 rfl (by first | rfl | exact isRefV_rf _) ?_
    refine r_callV0 (pc := 1) dX11_tick_1 qX11_next kX11_205 vX11_next (by exact isM.gx (by assumption)) rfl rfl (Nat.le_of_ble_eq_true rfl) (fx.deeper (by omega)) (fun v_1 h_1 q_1 => ?_)
    obtain ⟨rfl, rfl⟩ := q_1
    refine r_istore_n (pc := 4) dX11_tick_4 (Nat.le_of_ble_eq_true rfl) ?_
    dsimp only [lsSt, List.set, mLs, mEnt]
    refine r_iload_n (pc := 5) dX11_tick_5 rfl ?_
    refine rj_if_lt (pc := 6) (tgt := 14) dX11_tick_6 (by decide) (by first | assumption | exact b01_r | exact bz_r | omega | (constructor <;> omega) | exact hM _ | exact hPo _ | exact hTa _ | exact hRo _) (fun c_6 => ?_) (fun c_6 => ?_)
    · refine r_iload_n (pc := 14) dX11_tick_14 rfl ?_
      refine r_ireturn (pc := 15) .int dX11_tick_15 rfl (by first | rfl | assumption) ?_
      exact ⟨rfl, hB0, Same.refl⟩
    · exfalso; omega
  · rw [show sinkV m f14 = nextV m from if_pos hn]
    have ht : (((nextV m).toNat : Nat) : Int) = nextV m := by omega
    refine r_aload_n (pc := 0) dX11_tick_0 rfl (by first | rfl | exact isRefV_rf _) ?_
    refine r_callV0 (pc := 1) dX11_tick_1 qX11_next kX11_205 vX11_next (by exact isM.gx (by assumption)) rfl rfl (Nat.le_of_ble_eq_true rfl) (fx.deeper (by omega)) (fun v_1 h_1 q_1 => ?_)
    obtain ⟨rfl, rfl⟩ := q_1
    refine r_istore_n (pc := 4) dX11_tick_4 (Nat.le_of_ble_eq_true rfl) ?_
    dsimp only [lsSt, List.set, mLs, mEnt]
    refine r_iload_n (pc := 5) dX11_tick_5 rfl ?_
    refine rj_if_lt (pc := 6) (tgt := 14) dX11_tick_6 (by decide) (by first | assumption | exact b01_r | exact bz_r | omega | (constructor <;> omega) | exact hM _ | exact hPo _ | exact hTa _ | exact hRo _) (fun c_6 => ?_) (fun c_6 => ?_)
    · exfalso; omega
    · refine r_aload_n (pc := 9) dX11_tick_9 rfl (by first | rfl | exact isRefV_rf _) ?_
      refine r_iload_n (pc := 10) dX11_tick_10 rfl ?_
      refine r_callV1 (pc := 11) dX11_tick_11 qX11_turn kX11_208 vX11_turn (by exact isM.gx (by assumption)) rfl rfl (Nat.le_of_ble_eq_true rfl) (by have y := m_turn (G := G) (l := l) (D := 380) (by omega) (t := (nextV m).toNat) hPo (fun m1 m2 t h z1 z2 => by rw [ht] at z1 ⊢; exact (m_closes hPo ⟨by omega, by omega⟩ 91 m1 m2 t h z1 z2).deeper (by omega)) (fun m1 m2 e h z1 z2 => by rw [ht] at z1 ⊢; exact (m_shuts hPo ⟨by omega, by omega⟩ 61 m1 m2 e h z1 z2).deeper (by omega)) hB0 hR; rw [ht] at y; exact y.deeper (by omega)) (fun v_11 h_11 q_11 => ?_)
      obtain ⟨rfl, hB_11, S_11⟩ := q_11
      refine r_iload_n (pc := 14) dX11_tick_14 rfl ?_
      refine r_ireturn (pc := 15) .int dX11_tick_15 rfl (by first | rfl | assumption) ?_
      exact ⟨rfl, hB_11, S_11⟩
/-- so many ticks at most; how many there were -/
def ticksR (pool : Nat → Int) : Nat → (Nat → Int) → Nat → (Nat → Int) → Prop
  | 0, m, k, m' => k = 0 ∧ m' = m
  | n + 1, m, k, m' => ∃ m1, tickR pool m m1 ∧ ((nextV m < 0 ∧ k = 0 ∧ m' = m1) ∨ (0 ≤ nextV m ∧ ∃ k1, k = k1 + 1 ∧ ticksR pool n m1 k1 m'))
set_option maxHeartbeats 4000000 in
set_option maxRecDepth 100000 in
theorem L_ticks {G : mG} {l : Launch} {x s : Nat} {f4 f6 f8 f9 f10 f11 f12 f13 f16 f18 : Int} {kp was pool tape pln pap rwd rw : Nat → Int} (hPo : ∀ q, InR (pool q)) {B : Nat} (hB1 : B ≤ 100) {m' : Nat → Int} : ∀ (n i k : Nat) (m : Nat → Int) (f14 : Int) (h : mH), i + n = B → InR f14 → isM h x (mFs x f4 f6 f8 f9 f10 f11 f12 f13 f14 f16 f18 s) m kp was pool tape pln pap rwd rw → ticksR pool n m k m' → RUN G l 401 mX11_ticks 2 [some (.ref x), some (.int (J (B : Int))), some (.int (J (i : Int)))] [] h (fun v h' => v = some (.int (J ((i + k : Nat) : Int))) ∧ (∃ g14, InR g14 ∧ isM h' x (mFs x f4 f6 f8 f9 f10 f11 f12 f13 g14 f16 f18 s) m' kp was pool tape pln pap rwd rw) ∧ Same (mBlk x) h h') := by
  intro n
  induction n with
  | zero =>
    intro i k m f14 h hi h14 hB hR
    obtain ⟨rfl, rfl⟩ := hR
    have hB0 := hB
    refine r_iload_n (pc := 2) dX11_ticks_2 rfl ?_
    refine r_iload_n (pc := 3) dX11_ticks_3 rfl ?_
    refine rj_icmp_ge (pc := 4) (tgt := 20) dX11_ticks_4 (by decide) (by first | assumption | exact b01_r | exact bz_r | omega | (constructor <;> omega) | exact hM _ | exact hPo _ | exact hTa _ | exact hRo _) (by first | assumption | exact b01_r | exact bz_r | omega | (constructor <;> omega) | exact hM _ | exact hPo _ | exact hTa _ | exact hRo _) (fun c_4 => ?_) (fun c_4 => ?_)
    · refine r_iload_n (pc := 20) dX11_ticks_20 rfl ?_
      refine r_ireturn (pc := 21) .int dX11_ticks_21 rfl (by first | rfl | assumption) ?_
      exact ⟨by rw [Nat.add_zero], ⟨_, h14, hB0⟩, Same.refl⟩
    · exfalso; omega
  | succ n ih =>
    intro i k m f14 h hi h14 hB hR
    obtain ⟨m1, ht, hR⟩ := hR
    have rn := nextV_r ht.1
    have k3 := ht.1.2.2.2.2.1
    have hB0 := hB
    have g14 : InR (sinkV m f14) := by unfold sinkV; split; exact ⟨by omega, by omega⟩; exact h14
    rcases hR with ⟨hn, rfl, rfl⟩ | ⟨hn, k1, rfl, hR⟩
    · refine r_iload_n (pc := 2) dX11_ticks_2 rfl ?_
      refine r_iload_n (pc := 3) dX11_ticks_3 rfl ?_
      refine rj_icmp_ge (pc := 4) (tgt := 20) dX11_ticks_4 (by decide) (by first | assumption | exact b01_r | exact bz_r | omega | (constructor <;> omega) | exact hM _ | exact hPo _ | exact hTa _ | exact hRo _) (by first | assumption | exact b01_r | exact bz_r | omega | (constructor <;> omega) | exact hM _ | exact hPo _ | exact hTa _ | exact hRo _) (fun c_4 => ?_) (fun c_4 => ?_)
      · exfalso; omega
      · refine r_aload_n (pc := 7) dX11_ticks_7 rfl (by first | rfl | exact isRefV_rf _) ?_
        refine r_callV0 (pc := 8) dX11_ticks_8 qX11_tick kX11_211 vX11_tick (by exact isM.gx (by assumption)) rfl rfl (Nat.le_of_ble_eq_true rfl) (m_tick hPo hB0 ht) (fun v_8 h_8 q_8 => ?_)
        obtain ⟨rfl, hB_8, S_8⟩ := q_8
        refine rj_if_lt (pc := 11) (tgt := 20) dX11_ticks_11 (by decide) (by first | assumption | exact b01_r | exact bz_r | omega | (constructor <;> omega) | exact hM _ | exact hPo _ | exact hTa _ | exact hRo _) (fun c_11 => ?_) (fun c_11 => ?_)
        · refine r_iload_n (pc := 20) dX11_ticks_20 rfl ?_
          refine r_ireturn (pc := 21) .int dX11_ticks_21 rfl (by first | rfl | assumption) ?_
          exact ⟨by rw [Nat.add_zero], ⟨_, g14, hB_8⟩, S_8⟩
        · exfalso; omega
    · refine r_iload_n (pc := 2) dX11_ticks_2 rfl ?_
      refine r_iload_n (pc := 3) dX11_ticks_3 rfl ?_
      refine rj_icmp_ge (pc := 4) (tgt := 20) dX11_ticks_4 (by decide) (by first | assumption | exact b01_r | exact bz_r | omega | (constructor <;> omega) | exact hM _ | exact hPo _ | exact hTa _ | exact hRo _) (by first | assumption | exact b01_r | exact bz_r | omega | (constructor <;> omega) | exact hM _ | exact hPo _ | exact hTa _ | exact hRo _) (fun c_4 => ?_) (fun c_4 => ?_)
      · exfalso; omega
      · refine r_aload_n (pc := 7) dX11_ticks_7 rfl (by first | rfl | exact isRefV_rf _) ?_
        refine r_callV0 (pc := 8) dX11_ticks_8 qX11_tick kX11_211 vX11_tick (by exact isM.gx (by assumption)) rfl rfl (Nat.le_of_ble_eq_true rfl) (m_tick hPo hB0 ht) (fun v_8 h_8 q_8 => ?_)
        obtain ⟨rfl, hB_8, S_8⟩ := q_8
        refine rj_if_lt (pc := 11) (tgt := 20) dX11_ticks_11 (by decide) (by first | assumption | exact b01_r | exact bz_r | omega | (constructor <;> omega) | exact hM _ | exact hPo _ | exact hTa _ | exact hRo _) (fun c_11 => ?_) (fun c_11 => ?_)
        · exfalso; omega
        · refine rj_iinc (pc := 14) dX11_ticks_14 (Nat.le_of_ble_eq_true rfl) rfl ?_
          dsimp only [lsSt, List.set, mLs, mEnt]
          refine r_goto (pc := 17) (tgt := 2) dX11_ticks_17 (by decide) ?_
          have y := ih (i + 1) k1 m1 _ _ (by omega) g14 hB_8 hR
          rw [show ((i : Int) + 1) = ((i + 1 : Nat) : Int) by omega]
          exact y.mono (fun v h' q => ⟨by rw [q.1]; congr 3; omega, q.2.1, S_8.trans q.2.2⟩)
set_option maxHeartbeats 4000000 in
set_option maxRecDepth 100000 in
theorem m_ticks {G : mG} {l : Launch} {x s : Nat} {f4 f6 f8 f9 f10 f11 f12 f13 f14 f16 f18 : Int} {kp was pool tape pln pap rwd rw : Nat → Int} (hPo : ∀ q, InR (pool q)) (h14 : InR f14) {B k : Nat} (hB1 : B ≤ 100) {m m' : Nat → Int} {h : mH} (hB : isM h x (mFs x f4 f6 f8 f9 f10 f11 f12 f13 f14 f16 f18 s) m kp was pool tape pln pap rwd rw) (hR : ticksR pool B m k m') : RUNM G l 401 mX11_ticks [.ref x, .int (J (B : Int))] h (fun v h' => v = some (.int (J (k : Int))) ∧ (∃ g14, InR g14 ∧ isM h' x (mFs x f4 f6 f8 f9 f10 f11 f12 f13 g14 f16 f18 s) m' kp was pool tape pln pap rwd rw) ∧ Same (mBlk x) h h') := by
  refine RUNM.of (by decide +kernel) (Nat.le_of_ble_eq_true rfl) ?_
  refine rj_iconst (pc := 0) dX11_ticks_0 ?_
  refine r_istore_n (pc := 1) dX11_ticks_1 (Nat.le_of_ble_eq_true rfl) ?_
  dsimp only [lsSt, List.set, mLs, mEnt]
  have y := L_ticks (G := G) (l := l) hPo hB1 B 0 k m f14 h (by omega) h14 hB hR
  exact y.mono (fun v h' q => ⟨by rw [q.1, Nat.zero_add], q.2⟩)
set_option maxHeartbeats 4000000 in
set_option maxRecDepth 100000 in
theorem m_run {G : mG} {l : Launch} {x s : Nat} {f4 f6 f8 f9 f10 f11 f12 f13 f14 f16 f18 : Int} {kp was pool tape pln pap rwd rw : Nat → Int} (hPo : ∀ q, InR (pool q)) (h14 : InR f14) {b : Int} {k : Nat} (hb : InR b) {m m' : Nat → Int} {h : mH} (hB : isM h x (mFs x f4 f6 f8 f9 f10 f11 f12 f13 f14 f16 f18 s) m kp was pool tape pln pap rwd rw) (hR : (0 ≤ b ∧ b ≤ 100) → ticksR pool b.toNat m k m') : RUNM G l 402 mX11_run [.ref x, .int (J b)] h (fun v h' => (¬ (0 ≤ b ∧ b ≤ 100) ∧ v = some (.int (J (-2))) ∧ h' = h) ∨ ((0 ≤ b ∧ b ≤ 100) ∧ v = some (.int (J (k : Int))) ∧ (∃ g14, InR g14 ∧ isM h' x (mFs x f4 f6 f8 f9 f10 f11 f12 f13 g14 f16 f18 s) m' kp was pool tape pln pap rwd rw) ∧ Same (mBlk x) h h')) := by
  refine RUNM.of (by decide +kernel) (Nat.le_of_ble_eq_true rfl) ?_
  refine r_iload_n (pc := 0) dX11_run_0 rfl ?_
  refine rj_iconst (pc := 1) dX11_run_1 ?_
  refine rj_bipush (pc := 2) dX11_run_2 (by decide +kernel) ?_
  refine r_callS3 (pc := 4) dX11_run_4 qX11_isIn kX11_46 sX11_isIn (Nat.le_of_ble_eq_true rfl) ((m_isIn 0 hb (by decide) (by decide)).deeper (by omega)) (fun v_4 h_4 q_4 => ?_)
  obtain ⟨rfl, rfl⟩ := q_4
  refine rj_if_eq (pc := 7) (tgt := 18) dX11_run_7 (by decide) (by first | assumption | exact b01_r | exact bz_r | omega | (constructor <;> omega) | exact hM _ | exact hPo _ | exact hTa _ | exact hRo _) (fun c_7 => ?_) (fun c_7 => ?_)
  · try simp only [b01_0, bz_0, Classical.not_not] at c_7
    refine rj_bipush (pc := 18) dX11_run_18 (by decide +kernel) ?_
    refine r_ireturn (pc := 20) .int dX11_run_20 rfl (by first | rfl | assumption) ?_
    first | exact Or.inr ⟨c_7, rfl, hB_12, S_12⟩ | exact Or.inl ⟨c_7, rfl, rfl⟩
  · try simp only [b01_0, bz_0, Classical.not_not] at c_7
    refine r_aload_n (pc := 10) dX11_run_10 rfl (by first | rfl | exact isRefV_rf _) ?_
    refine r_iload_n (pc := 11) dX11_run_11 rfl ?_
    refine r_callV1 (pc := 12) dX11_run_12 qX11_ticks kX11_214 vX11_ticks (by exact isM.gx (by assumption)) rfl rfl (Nat.le_of_ble_eq_true rfl) (by have y := m_ticks (G := G) (l := l) hPo h14 (B := b.toNat) (k := k) (by omega) hB (hR c_7); rw [show ((b.toNat : Nat) : Int) = b by omega] at y; exact y) (fun v_12 h_12 q_12 => ?_)
    obtain ⟨rfl, hB_12, S_12⟩ := q_12
    refine r_goto (pc := 15) (tgt := 20) dX11_run_15 (by decide) ?_
    refine r_ireturn (pc := 20) .int dX11_run_20 rfl (by first | rfl | assumption) ?_
    first | exact Or.inr ⟨c_7, rfl, hB_12, S_12⟩ | exact Or.inl ⟨c_7, rfl, rfl⟩
end mg_71
section mg_72
/-! ===== the reference: close, shut, thoughts, the image ===== -/
theorem arrV_same {cI : ClassId} {n : Nat} {f g : Nat → Value} (h : ∀ j, j < n → f j = g j) : arrV cI n f = arrV cI n g := by
  unfold arrV
  rw [show (fun j : Fin n => f j.val) = (fun j : Fin n => g j.val) from funext (fun j => h j.val j.isLt)]
/-- a row of ints is known up to its size -/
theorem RUN.norm {G : mG} {l : Launch} {d : Nat} {M : mM} {pc : Nat} {ls : List (Option Value)} {st : List Value} {h : mH} {Q : Option Value → mH → Prop} {a n : Nat} {f f' : Nat → Int32} (hlo : h.1 ≤ a) (hg : hGet h a = some (.inr (.inl (n, f)))) (he : ∀ q, q < n → f q = f' q) (K : RUN G l d M pc ls st (hPut h a (.inr (.inl (n, f')))) Q) : RUN G l d M pc ls st h Q := by
  refine RUN.step (h2 := hPut h a (.inr (.inl (n, f')))) (pc2 := pc) (ls2 := ls) (st2 := st) (fun v h' b => ⟨b.1, fun p e R s m args below meth c H locs cells slots kC kS Q lsR C S r1 r2 r3 r4 K => ?_⟩) K
  refine b.2 p e R s m args below meth c H locs cells slots kC kS Q lsR C ⟨S.1.put rfl (fun q _ => rfl) ?_, S.2⟩ r1 r2 r3 r4 K
  rcases S.1.2.2 a _ hg with ⟨cA, h1, h2⟩ | ⟨h1, -⟩
  · exact Or.inl ⟨cA, h1, by rw [h2, vp_cell_i, vp_cell_i, arrV_same (fun j hj => by rw [he j hj])]⟩
  · exact absurd hlo (by omega)
theorem isM.cp0 {h h' : mH} {x : Nat} {fs : List Value} {m kp was pool tape pln pap rwd rw m' : Nat → Int} (k : isM h x fs m kp was pool tape pln pap rwd rw) (S : Same (fun b => b = mAd x 0) h h') (g : hGet h' (mAd x 0) = some (.inr (.inl (2928, fun q => J (m' q))))) : isM h' x fs m' kp was pool tape pln pap rwd rw := ⟨by rw [S.1]; exact k.lo, (S.2.2.2 _ x_mAd).trans k.gx, g, (S.2.2.2 _ (mAd_ne (by decide))).trans k.g1, (S.2.2.2 _ (mAd_ne (by decide))).trans k.g2, (S.2.2.2 _ (mAd_ne (by decide))).trans k.g3, (S.2.2.2 _ (mAd_ne (by decide))).trans k.g4, (S.2.2.2 _ (mAd_ne (by decide))).trans k.g5, (S.2.2.2 _ (mAd_ne (by decide))).trans k.g6, (S.2.2.2 _ (mAd_ne (by decide))).trans k.g7, (S.2.2.2 _ (mAd_ne (by decide))).trans k.g8⟩
theorem Same.blk0 {h h' : mH} {x : Nat} (S : Same (fun b => b = mAd x 0) h h') : Same (mBlk x) h h' := S.mono (fun b hb => hb ▸ mAd_blk (by decide))
theorem isM.cp1 {h h' : mH} {x : Nat} {fs : List Value} {m kp was pool tape pln pap rwd rw kp' : Nat → Int} (k : isM h x fs m kp was pool tape pln pap rwd rw) (S : Same (fun b => b = mAd x 1) h h') (g : hGet h' (mAd x 1) = some (.inr (.inl (2928, fun q => J (kp' q))))) : isM h' x fs m kp' was pool tape pln pap rwd rw := ⟨by rw [S.1]; exact k.lo, (S.2.2.2 _ x_mAd).trans k.gx, (S.2.2.2 _ (mAd_ne (by decide))).trans k.g0, g, (S.2.2.2 _ (mAd_ne (by decide))).trans k.g2, (S.2.2.2 _ (mAd_ne (by decide))).trans k.g3, (S.2.2.2 _ (mAd_ne (by decide))).trans k.g4, (S.2.2.2 _ (mAd_ne (by decide))).trans k.g5, (S.2.2.2 _ (mAd_ne (by decide))).trans k.g6, (S.2.2.2 _ (mAd_ne (by decide))).trans k.g7, (S.2.2.2 _ (mAd_ne (by decide))).trans k.g8⟩
theorem Same.blk1 {h h' : mH} {x : Nat} (S : Same (fun b => b = mAd x 1) h h') : Same (mBlk x) h h' := S.mono (fun b hb => hb ▸ mAd_blk (by decide))
theorem isM.cp2 {h h' : mH} {x : Nat} {fs : List Value} {m kp was pool tape pln pap rwd rw was' : Nat → Int} (k : isM h x fs m kp was pool tape pln pap rwd rw) (S : Same (fun b => b = mAd x 2) h h') (g : hGet h' (mAd x 2) = some (.inr (.inl (2928, fun q => J (was' q))))) : isM h' x fs m kp was' pool tape pln pap rwd rw := ⟨by rw [S.1]; exact k.lo, (S.2.2.2 _ x_mAd).trans k.gx, (S.2.2.2 _ (mAd_ne (by decide))).trans k.g0, (S.2.2.2 _ (mAd_ne (by decide))).trans k.g1, g, (S.2.2.2 _ (mAd_ne (by decide))).trans k.g3, (S.2.2.2 _ (mAd_ne (by decide))).trans k.g4, (S.2.2.2 _ (mAd_ne (by decide))).trans k.g5, (S.2.2.2 _ (mAd_ne (by decide))).trans k.g6, (S.2.2.2 _ (mAd_ne (by decide))).trans k.g7, (S.2.2.2 _ (mAd_ne (by decide))).trans k.g8⟩
theorem Same.blk2 {h h' : mH} {x : Nat} (S : Same (fun b => b = mAd x 2) h h') : Same (mBlk x) h h' := S.mono (fun b hb => hb ▸ mAd_blk (by decide))
theorem cpF_lt {f g : Nat → Int} {q : Nat} (h : q < 2928) : cpF f g 2928 q = f q := if_pos h
theorem cpF_cp {f g k : Nat → Int} {q : Nat} (h : q < 2928) : cpF (cpF f g 2928) k 2928 q = f q := by
  unfold cpF; rw [if_pos h, if_pos h]
def closeN (m : Nat → Int) (t : Int) : Int := if 0 ≤ t ∧ t ≤ m 1 - 1 then -3 else -1
abbrev closeDo (m : Nat → Int) (t : Int) : Prop := (0 ≤ t ∧ t ≤ m 1 - 1) ∧ m (258 + 14 * t).toNat = 0
def shutN (m : Nat → Int) (s : Int) : Int := if 0 ≤ s ∧ s ≤ m 0 - 1 then -3 else -1
set_option maxHeartbeats 4000000 in
set_option maxRecDepth 100000 in
theorem m_close {G : mG} {l : Launch} {x s : Nat} {f4 f6 f8 f9 f10 f11 f12 f13 f14 f16 f18 : Int} {kp was pool tape pln pap rwd rw : Nat → Int} (hPo : ∀ q, InR (pool q)) {m m' : Nat → Int} {h : mH} (hB : isM h x (mFs x f4 f6 f8 f9 f10 f11 f12 f13 f14 f16 f18 s) m kp was pool tape pln pap rwd rw) (hok : mOk m) {t : Int} (ht : InR t) (hR : closeDo m t → closesR pool (-1) 91 (updI m 5 0) t.toNat m') : RUNM G l 400 mX11_close [.ref x, .int (J t)] h (fun v h' => (¬ closeDo m t ∧ v = some (.int (J (closeN m t))) ∧ h' = h) ∨ (closeDo m t ∧ v = some (.int (J (m' 5))) ∧ isM h' x (mFs x f4 f6 f8 f9 f10 f11 f12 f13 (-1) f16 f18 s) m' kp was pool tape pln pap rwd rw ∧ Same (mBlk x) h h')) := by
  obtain ⟨hM, k0, k1, k2, k3, k4, k5, k7⟩ := id hok
  have hB0 := hB
  dsimp only [mFs] at hB
  refine RUNM.of (by decide +kernel) (Nat.le_of_ble_eq_true rfl) ?_
  refine r_aload_n (pc := 0) dX11_close_0 rfl (by first | rfl | exact isRefV_rf _) ?_
  refine r_iload_n (pc := 1) dX11_close_1 rfl ?_
  refine r_callV1 (pc := 2) dX11_close_2 qX11_isThing kX11_238 vX11_isThing (by exact isM.gx (by assumption)) rfl rfl (Nat.le_of_ble_eq_true rfl) ((m_isThing 0 hB0 ht ⟨by omega, by omega⟩).deeper (by omega)) (fun v_2 h_2 q_2 => ?_)
  obtain ⟨rfl, rfl⟩ := q_2
  refine rj_if_ne (pc := 5) (tgt := 10) dX11_close_5 (by decide) (by first | assumption | exact b01_r | exact bz_r | omega | (constructor <;> omega) | exact hM _ | exact hPo _ | exact hTa _ | exact hRo _) (fun c_5 => ?_) (fun c_5 => ?_)
  · try simp only [b01_0, bz_0, Classical.not_not] at c_5
    refine r_aload_n (pc := 10) dX11_close_10 rfl (by first | rfl | exact isRefV_rf _) ?_
    refine r_iload_n (pc := 11) dX11_close_11 rfl ?_
    refine r_callV1 (pc := 12) dX11_close_12 qX11_isHeld kX11_119 vX11_isHeld (by exact isM.gx (by assumption)) rfl rfl (Nat.le_of_ble_eq_true rfl) ((m_isHeld 0 hB0 hM (by omega) (by omega)).deeper (by omega)) (fun v_12 h_12 q_12 => ?_)
    obtain ⟨rfl, rfl⟩ := q_12
    refine rj_if_ne (pc := 15) (tgt := 21) dX11_close_15 (by decide) (by first | assumption | exact b01_r | exact bz_r | omega | (constructor <;> omega) | exact hM _ | exact hPo _ | exact hTa _ | exact hRo _) (fun c_15 => ?_) (fun c_15 => ?_)
    · try simp only [b01_0, bz_0, Classical.not_not] at c_15
      refine r_aload_n (pc := 21) dX11_close_21 rfl (by first | rfl | exact isRefV_rf _) ?_
      refine rj_iconst (pc := 22) dX11_close_22 ?_
      refine rm_putf (pc := 23) dX11_close_23 fX11_133 (by assumption) rfl rfl (Nat.le_of_ble_eq_true rfl) (fun h_23 hB_23 hS_23 => ?_)
      dsimp only [List.set, mFs] at hB_23
      refine r_aload_n (pc := 26) dX11_close_26 rfl (by first | rfl | exact isRefV_rf _) ?_
      refine rm_getf (pc := 27) dX11_close_27 fX11_11 (by assumption) rfl ?_
      refine rj_iconst (pc := 30) dX11_close_30 ?_
      refine rj_iconst (pc := 31) dX11_close_31 ?_
      first | refine rm_iast0 (pc := 32) (j := 5) dX11_close_32 (by assumption) (by first | assumption | exact b01_r | exact bz_r | omega | (constructor <;> omega) | exact hM _ | exact hPo _ | exact hTa _ | exact hRo _) (by first | assumption | exact b01_r | exact bz_r | omega | (constructor <;> omega) | exact hM _ | exact hPo _ | exact hTa _ | exact hRo _) (by first | assumption | exact b01_r | exact bz_r | omega | (constructor <;> omega) | exact hM _ | exact hPo _ | exact hTa _ | exact hRo _) (by omega) (fun h_32 hB_32 hS_32 => ?_)
      refine r_aload_n (pc := 33) dX11_close_33 rfl (by first | rfl | exact isRefV_rf _) ?_
      refine r_iload_n (pc := 34) dX11_close_34 rfl ?_
      refine r_callV1 (pc := 35) dX11_close_35 qX11_closes kX11_153 vX11_closes (by exact isM.gx (by assumption)) rfl rfl (Nat.le_of_ble_eq_true rfl) (by have y := m_closes (G := G) (l := l) hPo (by decide) 91 _ m' t.toNat _ hB_32 (hR ⟨c_5, c_15⟩); rw [show ((t.toNat : Nat) : Int) = t by omega] at y; exact y.deeper (by omega)) (fun v_35 h_35 q_35 => ?_)
      obtain ⟨rfl, hB_35, S_35⟩ := q_35
      refine r_aload_n (pc := 38) dX11_close_38 rfl (by first | rfl | exact isRefV_rf _) ?_
      refine rm_getf (pc := 39) dX11_close_39 fX11_11 (by assumption) rfl ?_
      refine rj_iconst (pc := 42) dX11_close_42 ?_
      refine rj_iald (pc := 43) (j := 5) dX11_close_43 (by first | exact isM.g0 (by assumption) | exact isM.g3 (by assumption) | exact isM.g4 (by assumption) | exact isM.g8 (by assumption) | exact isM.g7 (by assumption) | exact isM.g6 (by assumption) | exact isM.g5 (by assumption) | exact isM.g1 (by assumption) | exact isM.g2 (by assumption)) (by first | assumption | exact b01_r | exact bz_r | omega | (constructor <;> omega) | exact hM _ | exact hPo _ | exact hTa _ | exact hRo _) (by first | assumption | exact b01_r | exact bz_r | omega | (constructor <;> omega) | exact hM _ | exact hPo _ | exact hTa _ | exact hRo _) (by first | assumption | exact b01_r | exact bz_r | omega | (constructor <;> omega) | exact hM _ | exact hPo _ | exact hTa _ | exact hRo _) (by omega) ?_
      refine r_ireturn (pc := 44) .int dX11_close_44 rfl (by first | rfl | assumption) ?_
      exact Or.inr ⟨⟨c_5, c_15⟩, rfl, hB_35, (hS_23.trans hS_32).trans S_35⟩
    · try simp only [b01_0, bz_0, Classical.not_not] at c_15
      refine rj_bipush (pc := 18) dX11_close_18 (by decide +kernel) ?_
      refine r_ireturn (pc := 20) .int dX11_close_20 rfl (by first | rfl | assumption) ?_
      exact Or.inl ⟨fun g => c_15 g.2, by rw [show closeN m t = -3 from if_pos c_5], rfl⟩
  · try simp only [b01_0, bz_0, Classical.not_not] at c_5
    refine rj_iconst (pc := 8) dX11_close_8 ?_
    refine r_ireturn (pc := 9) .int dX11_close_9 rfl (by first | rfl | assumption) ?_
    exact Or.inl ⟨fun g => c_5 g.1, by rw [show closeN m t = -1 from if_neg c_5], rfl⟩
set_option maxHeartbeats 4000000 in
set_option maxRecDepth 100000 in
theorem m_shut {G : mG} {l : Launch} {x s : Nat} {f4 f6 f8 f9 f10 f11 f12 f13 f14 f16 f18 : Int} {kp was pool tape pln pap rwd rw : Nat → Int} (hPo : ∀ q, InR (pool q)) {m m' : Nat → Int} {h : mH} (hB : isM h x (mFs x f4 f6 f8 f9 f10 f11 f12 f13 f14 f16 f18 s) m kp was pool tape pln pap rwd rw) (hok : mOk m) {t : Int} (ht : InR t) (hR : openP m t → shutsR pool (-1) 61 (updI m 5 0) t m') : RUNM G l 400 mX11_shut [.ref x, .int (J t)] h (fun v h' => (¬ openP m t ∧ v = some (.int (J (shutN m t))) ∧ h' = h) ∨ (openP m t ∧ v = some (.int (J (m' 5))) ∧ isM h' x (mFs x f4 f6 f8 f9 f10 f11 f12 f13 (-1) f16 f18 s) m' kp was pool tape pln pap rwd rw ∧ Same (mBlk x) h h')) := by
  obtain ⟨hM, k0, k1, k2, k3, k4, k5, k7⟩ := id hok
  have hB0 := hB
  dsimp only [mFs] at hB
  refine RUNM.of (by decide +kernel) (Nat.le_of_ble_eq_true rfl) ?_
  refine r_aload_n (pc := 0) dX11_shut_0 rfl (by first | rfl | exact isRefV_rf _) ?_
  refine r_iload_n (pc := 1) dX11_shut_1 rfl ?_
  refine r_callV1 (pc := 2) dX11_shut_2 qX11_isScope kX11_50 vX11_isScope (by exact isM.gx (by assumption)) rfl rfl (Nat.le_of_ble_eq_true rfl) ((m_isScope 0 hB0 ht ⟨by omega, by omega⟩).deeper (by omega)) (fun v_2 h_2 q_2 => ?_)
  obtain ⟨rfl, rfl⟩ := q_2
  refine rj_if_ne (pc := 5) (tgt := 10) dX11_shut_5 (by decide) (by first | assumption | exact b01_r | exact bz_r | omega | (constructor <;> omega) | exact hM _ | exact hPo _ | exact hTa _ | exact hRo _) (fun c_5 => ?_) (fun c_5 => ?_)
  · try simp only [b01_0, bz_0, Classical.not_not] at c_5
    refine r_aload_n (pc := 10) dX11_shut_10 rfl (by first | rfl | exact isRefV_rf _) ?_
    refine r_iload_n (pc := 11) dX11_shut_11 rfl ?_
    refine r_callV1 (pc := 12) dX11_shut_12 qX11_isOpen kX11_146 vX11_isOpen (by exact isM.gx (by assumption)) rfl rfl (Nat.le_of_ble_eq_true rfl) ((m_isOpen 0 hB0 hM k0 ht).deeper (by omega)) (fun v_12 h_12 q_12 => ?_)
    obtain ⟨rfl, rfl⟩ := q_12
    refine rj_if_ne (pc := 15) (tgt := 21) dX11_shut_15 (by decide) (by first | assumption | exact b01_r | exact bz_r | omega | (constructor <;> omega) | exact hM _ | exact hPo _ | exact hTa _ | exact hRo _) (fun c_15 => ?_) (fun c_15 => ?_)
    · try simp only [b01_0, bz_0, Classical.not_not] at c_15
      refine r_aload_n (pc := 21) dX11_shut_21 rfl (by first | rfl | exact isRefV_rf _) ?_
      refine rj_iconst (pc := 22) dX11_shut_22 ?_
      refine rm_putf (pc := 23) dX11_shut_23 fX11_133 (by assumption) rfl rfl (Nat.le_of_ble_eq_true rfl) (fun h_23 hB_23 hS_23 => ?_)
      dsimp only [List.set, mFs] at hB_23
      refine r_aload_n (pc := 26) dX11_shut_26 rfl (by first | rfl | exact isRefV_rf _) ?_
      refine rm_getf (pc := 27) dX11_shut_27 fX11_11 (by assumption) rfl ?_
      refine rj_iconst (pc := 30) dX11_shut_30 ?_
      refine rj_iconst (pc := 31) dX11_shut_31 ?_
      first | refine rm_iast0 (pc := 32) (j := 5) dX11_shut_32 (by assumption) (by first | assumption | exact b01_r | exact bz_r | omega | (constructor <;> omega) | exact hM _ | exact hPo _ | exact hTa _ | exact hRo _) (by first | assumption | exact b01_r | exact bz_r | omega | (constructor <;> omega) | exact hM _ | exact hPo _ | exact hTa _ | exact hRo _) (by first | assumption | exact b01_r | exact bz_r | omega | (constructor <;> omega) | exact hM _ | exact hPo _ | exact hTa _ | exact hRo _) (by omega) (fun h_32 hB_32 hS_32 => ?_)
      refine r_aload_n (pc := 33) dX11_shut_33 rfl (by first | rfl | exact isRefV_rf _) ?_
      refine r_iload_n (pc := 34) dX11_shut_34 rfl ?_
      refine r_callV1 (pc := 35) dX11_shut_35 qX11_shuts kX11_157 vX11_shuts (by exact isM.gx (by assumption)) rfl rfl (Nat.le_of_ble_eq_true rfl) (by have y := m_shuts (G := G) (l := l) hPo (by decide) 61 _ m' t _ hB_32 (hR c_15); exact y.deeper (by omega)) (fun v_35 h_35 q_35 => ?_)
      obtain ⟨rfl, hB_35, S_35⟩ := q_35
      refine r_aload_n (pc := 38) dX11_shut_38 rfl (by first | rfl | exact isRefV_rf _) ?_
      refine rm_getf (pc := 39) dX11_shut_39 fX11_11 (by assumption) rfl ?_
      refine rj_iconst (pc := 42) dX11_shut_42 ?_
      refine rj_iald (pc := 43) (j := 5) dX11_shut_43 (by first | exact isM.g0 (by assumption) | exact isM.g3 (by assumption) | exact isM.g4 (by assumption) | exact isM.g8 (by assumption) | exact isM.g7 (by assumption) | exact isM.g6 (by assumption) | exact isM.g5 (by assumption) | exact isM.g1 (by assumption) | exact isM.g2 (by assumption)) (by first | assumption | exact b01_r | exact bz_r | omega | (constructor <;> omega) | exact hM _ | exact hPo _ | exact hTa _ | exact hRo _) (by first | assumption | exact b01_r | exact bz_r | omega | (constructor <;> omega) | exact hM _ | exact hPo _ | exact hTa _ | exact hRo _) (by first | assumption | exact b01_r | exact bz_r | omega | (constructor <;> omega) | exact hM _ | exact hPo _ | exact hTa _ | exact hRo _) (by omega) ?_
      refine r_ireturn (pc := 44) .int dX11_shut_44 rfl (by first | rfl | assumption) ?_
      exact Or.inr ⟨c_15, rfl, hB_35, (hS_23.trans hS_32).trans S_35⟩
    · try simp only [b01_0, bz_0, Classical.not_not] at c_15
      refine rj_bipush (pc := 18) dX11_shut_18 (by decide +kernel) ?_
      refine r_ireturn (pc := 20) .int dX11_shut_20 rfl (by first | rfl | assumption) ?_
      exact Or.inl ⟨c_15, by rw [show shutN m t = -3 from if_pos c_5], rfl⟩
  · try simp only [b01_0, bz_0, Classical.not_not] at c_5
    refine rj_iconst (pc := 8) dX11_shut_8 ?_
    refine r_ireturn (pc := 9) .int dX11_shut_9 rfl (by first | rfl | assumption) ?_
    exact Or.inl ⟨fun g => c_5 ⟨g.1, g.2.1⟩, by rw [show shutN m t = -1 from if_neg c_5], rfl⟩
def wouldV (m w : Nat → Int) (k : Int) : Int := if k = 0 then m 5 else if k = 1 then (if m 5 = 0 then 0 else m 2688) else if k = 2 then (if m 5 = 0 then -1 else m 2689) else if k = 3 then m 2 - w 2 else if k = 4 then m 1 - w 1 else cnt (heldB m) (m 1).toNat
set_option maxHeartbeats 4000000 in
set_option maxRecDepth 100000 in
theorem m_wouldNow {G : mG} {l : Launch} (d : Nat) {h : mH} {x s : Nat} {f4 f6 f8 f9 f10 f11 f12 f13 f14 f16 f18 : Int} {m kp was pool tape pln pap rwd rw : Nat → Int}(hB : isM h x (mFs x f4 f6 f8 f9 f10 f11 f12 f13 f14 f16 f18 s) m kp was pool tape pln pap rwd rw) (hok : mOk m) {k : Int} (hk : InR k) : RUNM G l (d + 3) mX11_wouldNow [.ref x, .int (J k)] h (fun v h' => v = some (.int (J (wouldV m was k))) ∧ h' = h) := by
  obtain ⟨hM, k0, k1, k2, k3, k4, k5, k7⟩ := id hok
  have hB0 := hB
  dsimp only [mFs] at hB
  refine RUNM.of (by decide +kernel) (Nat.le_of_ble_eq_true rfl) ?_
  have r5 := hM 5
  refine r_iload_n (pc := 0) dX11_wouldNow_0 rfl ?_
  refine rj_tsw (pc := 1) dX11_wouldNow_1 (by first | assumption | exact b01_r | exact bz_r | omega | (constructor <;> omega) | exact hM _ | exact hPo _ | exact hTa _ | exact hRo _) (by decide) (by decide) (by decide) (fun off_1 tgt_1 ho_1 ht_1 => ?_)
  by_cases e_1_0 : k = 0
  · rw [e_1_0] at ho_1
    obtain rfl : off_1 = 35 := ho_1.symm.trans (by decide)
    obtain rfl : tgt_1 = 36 := by omega
    refine r_aload_n (pc := 36) dX11_wouldNow_36 rfl (by first | rfl | exact isRefV_rf _) ?_
    refine rm_getf (pc := 37) dX11_wouldNow_37 fX11_11 (by assumption) rfl ?_
    refine rj_iconst (pc := 40) dX11_wouldNow_40 ?_
    refine rj_iald (pc := 41) (j := 5) dX11_wouldNow_41 (by first | exact isM.g0 (by assumption) | exact isM.g3 (by assumption) | exact isM.g4 (by assumption) | exact isM.g8 (by assumption) | exact isM.g7 (by assumption) | exact isM.g6 (by assumption) | exact isM.g5 (by assumption) | exact isM.g1 (by assumption) | exact isM.g2 (by assumption)) (by first | assumption | exact b01_r | exact bz_r | omega | (constructor <;> omega) | exact hM _ | exact hPo _ | exact hTa _ | exact hRo _) (by first | assumption | exact b01_r | exact bz_r | omega | (constructor <;> omega) | exact hM _ | exact hPo _ | exact hTa _ | exact hRo _) (by first | assumption | exact b01_r | exact bz_r | omega | (constructor <;> omega) | exact hM _ | exact hPo _ | exact hTa _ | exact hRo _) (by omega) ?_
    refine r_ireturn (pc := 42) .int dX11_wouldNow_42 rfl (by first | rfl | assumption) ?_
    exact ⟨by unfold wouldV; simp (config := {decide := true}) only [*, if_true, if_false, ite_true, ite_false], rfl⟩
  by_cases e_1_1 : k = 1
  · rw [e_1_1] at ho_1
    obtain rfl : off_1 = 42 := ho_1.symm.trans (by decide)
    obtain rfl : tgt_1 = 43 := by omega
    refine r_aload_n (pc := 43) dX11_wouldNow_43 rfl (by first | rfl | exact isRefV_rf _) ?_
    refine rm_getf (pc := 44) dX11_wouldNow_44 fX11_11 (by assumption) rfl ?_
    refine rj_iconst (pc := 47) dX11_wouldNow_47 ?_
    refine rj_iald (pc := 48) (j := 5) dX11_wouldNow_48 (by first | exact isM.g0 (by assumption) | exact isM.g3 (by assumption) | exact isM.g4 (by assumption) | exact isM.g8 (by assumption) | exact isM.g7 (by assumption) | exact isM.g6 (by assumption) | exact isM.g5 (by assumption) | exact isM.g1 (by assumption) | exact isM.g2 (by assumption)) (by first | assumption | exact b01_r | exact bz_r | omega | (constructor <;> omega) | exact hM _ | exact hPo _ | exact hTa _ | exact hRo _) (by first | assumption | exact b01_r | exact bz_r | omega | (constructor <;> omega) | exact hM _ | exact hPo _ | exact hTa _ | exact hRo _) (by first | assumption | exact b01_r | exact bz_r | omega | (constructor <;> omega) | exact hM _ | exact hPo _ | exact hTa _ | exact hRo _) (by omega) ?_
    refine rj_if_ne (pc := 49) (tgt := 56) dX11_wouldNow_49 (by decide) (by first | assumption | exact b01_r | exact bz_r | omega | (constructor <;> omega) | exact hM _ | exact hPo _ | exact hTa _ | exact hRo _) (fun c_49 => ?_) (fun c_49 => ?_)
    · try simp only [b01_0, bz_0, Classical.not_not] at c_49
      refine r_aload_n (pc := 56) dX11_wouldNow_56 rfl (by first | rfl | exact isRefV_rf _) ?_
      refine rm_getf (pc := 57) dX11_wouldNow_57 fX11_11 (by assumption) rfl ?_
      refine rj_sipush (pc := 60) dX11_wouldNow_60 (by decide +kernel) ?_
      refine rj_iald (pc := 63) (j := 2688) dX11_wouldNow_63 (by first | exact isM.g0 (by assumption) | exact isM.g3 (by assumption) | exact isM.g4 (by assumption) | exact isM.g8 (by assumption) | exact isM.g7 (by assumption) | exact isM.g6 (by assumption) | exact isM.g5 (by assumption) | exact isM.g1 (by assumption) | exact isM.g2 (by assumption)) (by first | assumption | exact b01_r | exact bz_r | omega | (constructor <;> omega) | exact hM _ | exact hPo _ | exact hTa _ | exact hRo _) (by first | assumption | exact b01_r | exact bz_r | omega | (constructor <;> omega) | exact hM _ | exact hPo _ | exact hTa _ | exact hRo _) (by first | assumption | exact b01_r | exact bz_r | omega | (constructor <;> omega) | exact hM _ | exact hPo _ | exact hTa _ | exact hRo _) (by omega) ?_
      refine r_ireturn (pc := 64) .int dX11_wouldNow_64 rfl (by first | rfl | assumption) ?_
      exact ⟨by unfold wouldV; simp (config := {decide := true}) only [*, if_true, if_false, ite_true, ite_false], rfl⟩
    · try simp only [b01_0, bz_0, Classical.not_not] at c_49
      refine rj_iconst (pc := 52) dX11_wouldNow_52 ?_
      refine r_goto (pc := 53) (tgt := 64) dX11_wouldNow_53 (by decide) ?_
      refine r_ireturn (pc := 64) .int dX11_wouldNow_64 rfl (by first | rfl | assumption) ?_
      exact ⟨by unfold wouldV; simp (config := {decide := true}) only [*, if_true, if_false, ite_true, ite_false], rfl⟩
  by_cases e_1_2 : k = 2
  · rw [e_1_2] at ho_1
    obtain rfl : off_1 = 64 := ho_1.symm.trans (by decide)
    obtain rfl : tgt_1 = 65 := by omega
    refine r_aload_n (pc := 65) dX11_wouldNow_65 rfl (by first | rfl | exact isRefV_rf _) ?_
    refine rm_getf (pc := 66) dX11_wouldNow_66 fX11_11 (by assumption) rfl ?_
    refine rj_iconst (pc := 69) dX11_wouldNow_69 ?_
    refine rj_iald (pc := 70) (j := 5) dX11_wouldNow_70 (by first | exact isM.g0 (by assumption) | exact isM.g3 (by assumption) | exact isM.g4 (by assumption) | exact isM.g8 (by assumption) | exact isM.g7 (by assumption) | exact isM.g6 (by assumption) | exact isM.g5 (by assumption) | exact isM.g1 (by assumption) | exact isM.g2 (by assumption)) (by first | assumption | exact b01_r | exact bz_r | omega | (constructor <;> omega) | exact hM _ | exact hPo _ | exact hTa _ | exact hRo _) (by first | assumption | exact b01_r | exact bz_r | omega | (constructor <;> omega) | exact hM _ | exact hPo _ | exact hTa _ | exact hRo _) (by first | assumption | exact b01_r | exact bz_r | omega | (constructor <;> omega) | exact hM _ | exact hPo _ | exact hTa _ | exact hRo _) (by omega) ?_
    refine rj_if_ne (pc := 71) (tgt := 78) dX11_wouldNow_71 (by decide) (by first | assumption | exact b01_r | exact bz_r | omega | (constructor <;> omega) | exact hM _ | exact hPo _ | exact hTa _ | exact hRo _) (fun c_71 => ?_) (fun c_71 => ?_)
    · try simp only [b01_0, bz_0, Classical.not_not] at c_71
      refine r_aload_n (pc := 78) dX11_wouldNow_78 rfl (by first | rfl | exact isRefV_rf _) ?_
      refine rm_getf (pc := 79) dX11_wouldNow_79 fX11_11 (by assumption) rfl ?_
      refine rj_sipush (pc := 82) dX11_wouldNow_82 (by decide +kernel) ?_
      refine rj_iald (pc := 85) (j := 2689) dX11_wouldNow_85 (by first | exact isM.g0 (by assumption) | exact isM.g3 (by assumption) | exact isM.g4 (by assumption) | exact isM.g8 (by assumption) | exact isM.g7 (by assumption) | exact isM.g6 (by assumption) | exact isM.g5 (by assumption) | exact isM.g1 (by assumption) | exact isM.g2 (by assumption)) (by first | assumption | exact b01_r | exact bz_r | omega | (constructor <;> omega) | exact hM _ | exact hPo _ | exact hTa _ | exact hRo _) (by first | assumption | exact b01_r | exact bz_r | omega | (constructor <;> omega) | exact hM _ | exact hPo _ | exact hTa _ | exact hRo _) (by first | assumption | exact b01_r | exact bz_r | omega | (constructor <;> omega) | exact hM _ | exact hPo _ | exact hTa _ | exact hRo _) (by omega) ?_
      refine r_ireturn (pc := 86) .int dX11_wouldNow_86 rfl (by first | rfl | assumption) ?_
      exact ⟨by unfold wouldV; simp (config := {decide := true}) only [*, if_true, if_false, ite_true, ite_false], rfl⟩
    · try simp only [b01_0, bz_0, Classical.not_not] at c_71
      refine rj_iconst (pc := 74) dX11_wouldNow_74 ?_
      refine r_goto (pc := 75) (tgt := 86) dX11_wouldNow_75 (by decide) ?_
      refine r_ireturn (pc := 86) .int dX11_wouldNow_86 rfl (by first | rfl | assumption) ?_
      exact ⟨by unfold wouldV; simp (config := {decide := true}) only [*, if_true, if_false, ite_true, ite_false], rfl⟩
  by_cases e_1_3 : k = 3
  · rw [e_1_3] at ho_1
    obtain rfl : off_1 = 86 := ho_1.symm.trans (by decide)
    obtain rfl : tgt_1 = 87 := by omega
    refine r_aload_n (pc := 87) dX11_wouldNow_87 rfl (by first | rfl | exact isRefV_rf _) ?_
    refine rm_getf (pc := 88) dX11_wouldNow_88 fX11_11 (by assumption) rfl ?_
    refine rj_iconst (pc := 91) dX11_wouldNow_91 ?_
    refine rj_iald (pc := 92) (j := 2) dX11_wouldNow_92 (by first | exact isM.g0 (by assumption) | exact isM.g3 (by assumption) | exact isM.g4 (by assumption) | exact isM.g8 (by assumption) | exact isM.g7 (by assumption) | exact isM.g6 (by assumption) | exact isM.g5 (by assumption) | exact isM.g1 (by assumption) | exact isM.g2 (by assumption)) (by first | assumption | exact b01_r | exact bz_r | omega | (constructor <;> omega) | exact hM _ | exact hPo _ | exact hTa _ | exact hRo _) (by first | assumption | exact b01_r | exact bz_r | omega | (constructor <;> omega) | exact hM _ | exact hPo _ | exact hTa _ | exact hRo _) (by first | assumption | exact b01_r | exact bz_r | omega | (constructor <;> omega) | exact hM _ | exact hPo _ | exact hTa _ | exact hRo _) (by omega) ?_
    refine r_aload_n (pc := 93) dX11_wouldNow_93 rfl (by first | rfl | exact isRefV_rf _) ?_
    refine rm_getf (pc := 94) dX11_wouldNow_94 fX11_18 (by assumption) rfl ?_
    refine rj_iconst (pc := 97) dX11_wouldNow_97 ?_
    refine rj_iald (pc := 98) (j := 2) dX11_wouldNow_98 (by first | exact isM.g0 (by assumption) | exact isM.g3 (by assumption) | exact isM.g4 (by assumption) | exact isM.g8 (by assumption) | exact isM.g7 (by assumption) | exact isM.g6 (by assumption) | exact isM.g5 (by assumption) | exact isM.g1 (by assumption) | exact isM.g2 (by assumption)) (by first | assumption | exact b01_r | exact bz_r | omega | (constructor <;> omega) | exact hM _ | exact hPo _ | exact hTa _ | exact hRo _) (by first | assumption | exact b01_r | exact bz_r | omega | (constructor <;> omega) | exact hM _ | exact hPo _ | exact hTa _ | exact hRo _) (by first | assumption | exact b01_r | exact bz_r | omega | (constructor <;> omega) | exact hM _ | exact hPo _ | exact hTa _ | exact hRo _) (by omega) ?_
    refine rj_isub (pc := 99) dX11_wouldNow_99 ?_
    refine r_ireturn (pc := 100) .int dX11_wouldNow_100 rfl (by first | rfl | assumption) ?_
    exact ⟨by unfold wouldV; simp (config := {decide := true}) only [*, if_true, if_false, ite_true, ite_false], rfl⟩
  by_cases e_1_4 : k = 4
  · rw [e_1_4] at ho_1
    obtain rfl : off_1 = 100 := ho_1.symm.trans (by decide)
    obtain rfl : tgt_1 = 101 := by omega
    refine r_aload_n (pc := 101) dX11_wouldNow_101 rfl (by first | rfl | exact isRefV_rf _) ?_
    refine rm_getf (pc := 102) dX11_wouldNow_102 fX11_11 (by assumption) rfl ?_
    refine rj_iconst (pc := 105) dX11_wouldNow_105 ?_
    refine rj_iald (pc := 106) (j := 1) dX11_wouldNow_106 (by first | exact isM.g0 (by assumption) | exact isM.g3 (by assumption) | exact isM.g4 (by assumption) | exact isM.g8 (by assumption) | exact isM.g7 (by assumption) | exact isM.g6 (by assumption) | exact isM.g5 (by assumption) | exact isM.g1 (by assumption) | exact isM.g2 (by assumption)) (by first | assumption | exact b01_r | exact bz_r | omega | (constructor <;> omega) | exact hM _ | exact hPo _ | exact hTa _ | exact hRo _) (by first | assumption | exact b01_r | exact bz_r | omega | (constructor <;> omega) | exact hM _ | exact hPo _ | exact hTa _ | exact hRo _) (by first | assumption | exact b01_r | exact bz_r | omega | (constructor <;> omega) | exact hM _ | exact hPo _ | exact hTa _ | exact hRo _) (by omega) ?_
    refine r_aload_n (pc := 107) dX11_wouldNow_107 rfl (by first | rfl | exact isRefV_rf _) ?_
    refine rm_getf (pc := 108) dX11_wouldNow_108 fX11_18 (by assumption) rfl ?_
    refine rj_iconst (pc := 111) dX11_wouldNow_111 ?_
    refine rj_iald (pc := 112) (j := 1) dX11_wouldNow_112 (by first | exact isM.g0 (by assumption) | exact isM.g3 (by assumption) | exact isM.g4 (by assumption) | exact isM.g8 (by assumption) | exact isM.g7 (by assumption) | exact isM.g6 (by assumption) | exact isM.g5 (by assumption) | exact isM.g1 (by assumption) | exact isM.g2 (by assumption)) (by first | assumption | exact b01_r | exact bz_r | omega | (constructor <;> omega) | exact hM _ | exact hPo _ | exact hTa _ | exact hRo _) (by first | assumption | exact b01_r | exact bz_r | omega | (constructor <;> omega) | exact hM _ | exact hPo _ | exact hTa _ | exact hRo _) (by first | assumption | exact b01_r | exact bz_r | omega | (constructor <;> omega) | exact hM _ | exact hPo _ | exact hTa _ | exact hRo _) (by omega) ?_
    refine rj_isub (pc := 113) dX11_wouldNow_113 ?_
    refine r_ireturn (pc := 114) .int dX11_wouldNow_114 rfl (by first | rfl | assumption) ?_
    exact ⟨by unfold wouldV; simp (config := {decide := true}) only [*, if_true, if_false, ite_true, ite_false], rfl⟩
  have eo_1 : off_1 = 114 := by
    rw [← ho_1]
    unfold tswOff
    rw [if_pos (by omega)]
  obtain rfl : tgt_1 = 115 := by omega
  refine r_aload_n (pc := 115) dX11_wouldNow_115 rfl (by first | rfl | exact isRefV_rf _) ?_
  refine r_callV0 (pc := 116) dX11_wouldNow_116 qX11_held kX11_276 vX11_held (by exact isM.gx (by assumption)) rfl rfl (Nat.le_of_ble_eq_true rfl) (m_held d hB0 hM (N := (m 1).toNat) (by omega) (by omega)) (fun v_116 h_116 q_116 => ?_)
  obtain ⟨rfl, rfl⟩ := q_116
  refine r_ireturn (pc := 119) .int dX11_wouldNow_119 rfl (by first | rfl | assumption) ?_
  exact ⟨by unfold wouldV; simp (config := {decide := true}) only [*, if_true, if_false, ite_true, ite_false], rfl⟩
set_option maxHeartbeats 4000000 in
set_option maxRecDepth 100000 in
theorem m_would {G : mG} {l : Launch} {x s : Nat} {f4 f6 f8 f9 f10 f11 f12 f13 f14 f16 f18 : Int} {kp was pool tape pln pap rwd rw : Nat → Int} (hPo : ∀ q, InR (pool q)) {m m' : Nat → Int} {h : mH} (hB : isM h x (mFs x f4 f6 f8 f9 f10 f11 f12 f13 f14 f16 f18 s) m kp was pool tape pln pap rwd rw) (hok : mOk m) {t k : Int} (ht : InR t) (hk : InR k) (hR : openP m t → shutsR pool (-1) 61 (updI m 5 0) t m' ∧ mOk m') : RUNM G l 402 mX11_would [.ref x, .int (J t), .int (J k)] h (fun v h' => (¬ ((0 ≤ t ∧ t ≤ m 0 - 1) ∧ (0 ≤ k ∧ k ≤ 5)) ∧ v = some (.int (J (-1))) ∧ h' = h) ∨ (((0 ≤ t ∧ t ≤ m 0 - 1) ∧ (0 ≤ k ∧ k ≤ 5)) ∧ ¬ openP m t ∧ v = some (.int (J (-3))) ∧ h' = h) ∨ (((0 ≤ t ∧ t ≤ m 0 - 1) ∧ (0 ≤ k ∧ k ≤ 5)) ∧ openP m t ∧ v = some (.int (J (wouldV m' m k))) ∧ (∃ was', isM h' x (mFs x f4 f6 f8 f9 f10 f11 f12 f13 (-1) f16 f18 s) m kp was' pool tape pln pap rwd rw) ∧ Same (mBlk x) h h')) := by
  obtain ⟨hM, k0, k1, k2, k3, k4, k5, k7⟩ := id hok
  have hB0 := hB
  have ew : wouldV m' (cpF m was 2928) k = wouldV m' m k := by unfold wouldV cpF; simp
  dsimp only [mFs] at hB
  refine RUNM.of (by decide +kernel) (Nat.le_of_ble_eq_true rfl) ?_
  refine r_aload_n (pc := 0) dX11_would_0 rfl (by first | rfl | exact isRefV_rf _) ?_
  refine r_iload_n (pc := 1) dX11_would_1 rfl ?_
  refine r_callV1 (pc := 2) dX11_would_2 qX11_isScope kX11_50 vX11_isScope (by exact isM.gx (by assumption)) rfl rfl (Nat.le_of_ble_eq_true rfl) ((m_isScope 0 hB0 ht ⟨by omega, by omega⟩).deeper (by omega)) (fun v_2 h_2 q_2 => ?_)
  obtain ⟨rfl, rfl⟩ := q_2
  refine rj_if_eq (pc := 5) (tgt := 17) dX11_would_5 (by decide) (by first | assumption | exact b01_r | exact bz_r | omega | (constructor <;> omega) | exact hM _ | exact hPo _ | exact hTa _ | exact hRo _) (fun c_5 => ?_) (fun c_5 => ?_)
  · try simp only [b01_0, bz_0, Classical.not_not] at c_5
    refine rj_iconst (pc := 17) dX11_would_17 ?_
    refine r_ireturn (pc := 18) .int dX11_would_18 rfl (by first | rfl | assumption) ?_
    first | exact Or.inl ⟨fun g => c_5 g.1, rfl, rfl⟩ | exact Or.inl ⟨fun g => c_14 g.2, rfl, rfl⟩
  · try simp only [b01_0, bz_0, Classical.not_not] at c_5
    refine r_iload_n (pc := 8) dX11_would_8 rfl ?_
    refine rj_iconst (pc := 9) dX11_would_9 ?_
    refine rj_iconst (pc := 10) dX11_would_10 ?_
    refine r_callS3 (pc := 11) dX11_would_11 qX11_isIn kX11_46 sX11_isIn (Nat.le_of_ble_eq_true rfl) ((m_isIn 0 hk (by decide) (by decide)).deeper (by omega)) (fun v_11 h_11 q_11 => ?_)
    obtain ⟨rfl, rfl⟩ := q_11
    refine rj_if_ne (pc := 14) (tgt := 19) dX11_would_14 (by decide) (by first | assumption | exact b01_r | exact bz_r | omega | (constructor <;> omega) | exact hM _ | exact hPo _ | exact hTa _ | exact hRo _) (fun c_14 => ?_) (fun c_14 => ?_)
    · try simp only [b01_0, bz_0, Classical.not_not] at c_14
      refine r_aload_n (pc := 19) dX11_would_19 rfl (by first | rfl | exact isRefV_rf _) ?_
      refine r_iload_n (pc := 20) dX11_would_20 rfl ?_
      refine r_callV1 (pc := 21) dX11_would_21 qX11_isOpen kX11_146 vX11_isOpen (by exact isM.gx (by assumption)) rfl rfl (Nat.le_of_ble_eq_true rfl) ((m_isOpen 0 hB0 hM k0 ht).deeper (by omega)) (fun v_21 h_21 q_21 => ?_)
      obtain ⟨rfl, rfl⟩ := q_21
      refine rj_if_ne (pc := 24) (tgt := 30) dX11_would_24 (by decide) (by first | assumption | exact b01_r | exact bz_r | omega | (constructor <;> omega) | exact hM _ | exact hPo _ | exact hTa _ | exact hRo _) (fun c_24 => ?_) (fun c_24 => ?_)
      · try simp only [b01_0, bz_0, Classical.not_not] at c_24
        refine r_aload_n (pc := 30) dX11_would_30 rfl (by first | rfl | exact isRefV_rf _) ?_
        refine rm_getf (pc := 31) dX11_would_31 fX11_11 (by assumption) rfl ?_
        refine r_aload_n (pc := 34) dX11_would_34 rfl (by first | rfl | exact isRefV_rf _) ?_
        refine rm_getf (pc := 35) dX11_would_35 fX11_18 (by assumption) rfl ?_
        refine r_callS2 (pc := 38) dX11_would_38 qX11_copies kX11_279 sX11_copies (Nat.le_of_ble_eq_true rfl) ((m_copies 0 (mAd_ne (by decide)) hB.g0 hB.g2 (hB.loA 2)).deeper (Nat.zero_le _)) (fun v_38 h_38 q_38 => ?_)
        obtain ⟨rfl, G_38, S_38⟩ := q_38
        have hB_38 := hB0.cp2 S_38 G_38
        have T_38 := S_38.blk2
        refine r_aload_n (pc := 41) dX11_would_41 rfl (by first | rfl | exact isRefV_rf _) ?_
        refine r_iload_n (pc := 42) dX11_would_42 rfl ?_
        refine r_callV1 (pc := 43) dX11_would_43 qX11_shut kX11_283 vX11_shut (by exact isM.gx (by assumption)) rfl rfl (Nat.le_of_ble_eq_true rfl) ((m_shut (m' := m') hPo hB_38 hok ht (fun q => (hR q).1)).deeper (by omega)) (fun v_43 h_43 q_43 => ?_)
        obtain ⟨hn_43, -, -⟩ | ⟨-, rfl, hB_43, S_43⟩ := q_43
        · exact absurd c_24 hn_43
        refine r_pop (pc := 46) dX11_would_46 (by first | rfl | (cases ‹Option Nat› <;> rfl)) ?_
        refine r_aload_n (pc := 47) dX11_would_47 rfl (by first | rfl | exact isRefV_rf _) ?_
        refine r_iload_n (pc := 48) dX11_would_48 rfl ?_
        refine r_callV1 (pc := 49) dX11_would_49 qX11_wouldNow kX11_286 vX11_wouldNow (by exact isM.gx (by assumption)) rfl rfl (Nat.le_of_ble_eq_true rfl) ((m_wouldNow 0 hB_43 (hR c_24).2 hk).deeper (by omega)) (fun v_49 h_49 q_49 => ?_)
        obtain ⟨rfl, rfl⟩ := q_49
        refine r_istore_n (pc := 52) dX11_would_52 (Nat.le_of_ble_eq_true rfl) ?_
        dsimp only [lsSt, List.set, mLs, mEnt]
        refine r_aload_n (pc := 53) dX11_would_53 rfl (by first | rfl | exact isRefV_rf _) ?_
        refine rm_getf (pc := 54) dX11_would_54 fX11_18 (by assumption) rfl ?_
        refine r_aload_n (pc := 57) dX11_would_57 rfl (by first | rfl | exact isRefV_rf _) ?_
        refine rm_getf (pc := 58) dX11_would_58 fX11_11 (by assumption) rfl ?_
        refine r_callS2 (pc := 61) dX11_would_61 qX11_copies kX11_279 sX11_copies (Nat.le_of_ble_eq_true rfl) ((m_copies 0 (mAd_ne (by decide)) hB_43.g2 hB_43.g0 (hB_43.loA 0)).deeper (Nat.zero_le _)) (fun v_61 h_61 q_61 => ?_)
        obtain ⟨rfl, G_61, S_61⟩ := q_61
        have hB_61 := hB_43.cp0 S_61 G_61
        have T_61 := S_61.blk0
        refine RUN.norm (hB_61.loA 0) G_61 (f' := fun q => J (m q)) (fun q hq => by rw [cpF_cp hq]) ?_
        refine r_iload_n (pc := 64) dX11_would_64 rfl ?_
        refine r_ireturn (pc := 65) .int dX11_would_65 rfl (by first | rfl | assumption) ?_
        rw [ew]
        exact Or.inr (Or.inr ⟨⟨c_5, c_14⟩, c_24, rfl, ⟨_, hB_61.put0 m⟩, ((T_38.trans S_43).trans T_61).trans (Same.refl.put (mAd_blk (by decide)))⟩)
      · try simp only [b01_0, bz_0, Classical.not_not] at c_24
        refine rj_bipush (pc := 27) dX11_would_27 (by decide +kernel) ?_
        refine r_ireturn (pc := 29) .int dX11_would_29 rfl (by first | rfl | assumption) ?_
        exact Or.inr (Or.inl ⟨⟨c_5, c_14⟩, c_24, rfl, rfl⟩)
    · try simp only [b01_0, bz_0, Classical.not_not] at c_14
      refine rj_iconst (pc := 17) dX11_would_17 ?_
      refine r_ireturn (pc := 18) .int dX11_would_18 rfl (by first | rfl | assumption) ?_
      first | exact Or.inl ⟨fun g => c_5 g.1, rfl, rfl⟩ | exact Or.inl ⟨fun g => c_14 g.2, rfl, rfl⟩
def trialV (m : Nat → Int) (t k : Int) : Int := if k = 0 then manyV m (m 4).toNat t else if k = 1 then (if manyV m (m 4).toNat t = 0 then 0 else faultAtV m (m 4).toNat t 0 0) else if k = 2 then (if manyV m (m 4).toNat t = 0 then -1 else faultAtV m (m 4).toNat t 0 1) else if k = 3 then m (1610 + 72 * t).toNat else if k = 4 then m (1612 + 72 * t).toNat else m 2
set_option maxHeartbeats 4000000 in
set_option maxRecDepth 100000 in
theorem m_trialNow {G : mG} {l : Launch} (d : Nat) {h : mH} {x s : Nat} {f4 f6 f8 f9 f10 f11 f12 f13 f14 f16 f18 : Int} {m kp was pool tape pln pap rwd rw : Nat → Int}(hB : isM h x (mFs x f4 f6 f8 f9 f10 f11 f12 f13 f14 f16 f18 s) m kp was pool tape pln pap rwd rw) (hok : mOk m) {t k : Int} (ht : 0 ≤ t ∧ t ≤ 9) (hk : InR k) : RUNM G l (d + 5) mX11_trialNow [.ref x, .int (J t), .int (J k)] h (fun v h' => v = some (.int (J (trialV m t k))) ∧ h' = h) := by
  obtain ⟨hM, k0, k1, k2, k3, k4, k5, k7⟩ := id hok
  have hB0 := hB
  dsimp only [mFs] at hB
  refine RUNM.of (by decide +kernel) (Nat.le_of_ble_eq_true rfl) ?_
  have rm : InR (manyV m (m 4).toNat t) := by have := cnt_r (faultB m t) (m 4).toNat; unfold manyV; rw [if_pos ht.1]; constructor <;> split <;> omega
  have rm0 : 0 ≤ manyV m (m 4).toNat t := by have := cnt_r (faultB m t) (m 4).toNat; unfold manyV; rw [if_pos ht.1]; split <;> omega
  refine r_iload_n (pc := 0) dX11_trialNow_0 rfl ?_
  refine rj_tsw (pc := 1) dX11_trialNow_1 (by first | assumption | exact b01_r | exact bz_r | omega | (constructor <;> omega) | exact hM _ | exact hPo _ | exact hTa _ | exact hRo _) (by decide) (by decide) (by decide) (fun off_1 tgt_1 ho_1 ht_1 => ?_)
  by_cases e_1_0 : k = 0
  · rw [e_1_0] at ho_1
    obtain rfl : off_1 = 35 := ho_1.symm.trans (by decide)
    obtain rfl : tgt_1 = 36 := by omega
    refine r_aload_n (pc := 36) dX11_trialNow_36 rfl (by first | rfl | exact isRefV_rf _) ?_
    refine r_iload_n (pc := 37) dX11_trialNow_37 rfl ?_
    refine r_callV1 (pc := 38) dX11_trialNow_38 qX11_manyFaults kX11_232 vX11_manyFaults (by exact isM.gx (by assumption)) rfl rfl (Nat.le_of_ble_eq_true rfl) ((m_manyFaults 0 hB0 hM (N := (m 4).toNat) (by omega) (by omega) (by constructor <;> omega) (by omega)).deeper (by omega)) (fun v_38 h_38 q_38 => ?_)
    obtain ⟨rfl, rfl⟩ := q_38
    refine r_ireturn (pc := 41) .int dX11_trialNow_41 rfl (by first | rfl | assumption) ?_
    exact ⟨by unfold trialV; simp (config := {decide := true}) only [*, if_true, if_false, ite_true, ite_false], rfl⟩
  by_cases e_1_1 : k = 1
  · rw [e_1_1] at ho_1
    obtain rfl : off_1 = 41 := ho_1.symm.trans (by decide)
    obtain rfl : tgt_1 = 42 := by omega
    refine r_aload_n (pc := 42) dX11_trialNow_42 rfl (by first | rfl | exact isRefV_rf _) ?_
    refine r_iload_n (pc := 43) dX11_trialNow_43 rfl ?_
    refine r_callV1 (pc := 44) dX11_trialNow_44 qX11_manyFaults kX11_232 vX11_manyFaults (by exact isM.gx (by assumption)) rfl rfl (Nat.le_of_ble_eq_true rfl) ((m_manyFaults 0 hB0 hM (N := (m 4).toNat) (by omega) (by omega) (by constructor <;> omega) (by omega)).deeper (by omega)) (fun v_44 h_44 q_44 => ?_)
    obtain ⟨rfl, rfl⟩ := q_44
    refine rj_if_ne (pc := 47) (tgt := 54) dX11_trialNow_47 (by decide) (by first | assumption | exact b01_r | exact bz_r | omega | (constructor <;> omega) | exact hM _ | exact hPo _ | exact hTa _ | exact hRo _) (fun c_47 => ?_) (fun c_47 => ?_)
    · try simp only [b01_0, bz_0, Classical.not_not] at c_47
      refine r_aload_n (pc := 54) dX11_trialNow_54 rfl (by first | rfl | exact isRefV_rf _) ?_
      refine r_iload_n (pc := 55) dX11_trialNow_55 rfl ?_
      refine rj_iconst (pc := 56) dX11_trialNow_56 ?_
      refine rj_iconst (pc := 57) dX11_trialNow_57 ?_
      refine r_callV3 (pc := 58) dX11_trialNow_58 qX11_faultAt kX11_235 vX11_faultAt (by exact isM.gx (by assumption)) rfl rfl (Nat.le_of_ble_eq_true rfl) ((m_faultAt 0 hB0 hM (N := (m 4).toNat) (by omega) (by omega) (by constructor <;> omega) (by decide) (by omega) (by omega) (by decide) (by omega)).deeper (by omega)) (fun v_58 h_58 q_58 => ?_)
      obtain ⟨rfl, rfl⟩ := q_58
      refine r_ireturn (pc := 61) .int dX11_trialNow_61 rfl (by first | rfl | assumption) ?_
      exact ⟨by unfold trialV; simp (config := {decide := true}) only [*, if_true, if_false, ite_true, ite_false], rfl⟩
    · try simp only [b01_0, bz_0, Classical.not_not] at c_47
      refine rj_iconst (pc := 50) dX11_trialNow_50 ?_
      refine r_goto (pc := 51) (tgt := 61) dX11_trialNow_51 (by decide) ?_
      refine r_ireturn (pc := 61) .int dX11_trialNow_61 rfl (by first | rfl | assumption) ?_
      exact ⟨by unfold trialV; simp (config := {decide := true}) only [*, if_true, if_false, ite_true, ite_false], rfl⟩
  by_cases e_1_2 : k = 2
  · rw [e_1_2] at ho_1
    obtain rfl : off_1 = 61 := ho_1.symm.trans (by decide)
    obtain rfl : tgt_1 = 62 := by omega
    refine r_aload_n (pc := 62) dX11_trialNow_62 rfl (by first | rfl | exact isRefV_rf _) ?_
    refine r_iload_n (pc := 63) dX11_trialNow_63 rfl ?_
    refine r_callV1 (pc := 64) dX11_trialNow_64 qX11_manyFaults kX11_232 vX11_manyFaults (by exact isM.gx (by assumption)) rfl rfl (Nat.le_of_ble_eq_true rfl) ((m_manyFaults 0 hB0 hM (N := (m 4).toNat) (by omega) (by omega) (by constructor <;> omega) (by omega)).deeper (by omega)) (fun v_64 h_64 q_64 => ?_)
    obtain ⟨rfl, rfl⟩ := q_64
    refine rj_if_ne (pc := 67) (tgt := 74) dX11_trialNow_67 (by decide) (by first | assumption | exact b01_r | exact bz_r | omega | (constructor <;> omega) | exact hM _ | exact hPo _ | exact hTa _ | exact hRo _) (fun c_67 => ?_) (fun c_67 => ?_)
    · try simp only [b01_0, bz_0, Classical.not_not] at c_67
      refine r_aload_n (pc := 74) dX11_trialNow_74 rfl (by first | rfl | exact isRefV_rf _) ?_
      refine r_iload_n (pc := 75) dX11_trialNow_75 rfl ?_
      refine rj_iconst (pc := 76) dX11_trialNow_76 ?_
      refine rj_iconst (pc := 77) dX11_trialNow_77 ?_
      refine r_callV3 (pc := 78) dX11_trialNow_78 qX11_faultAt kX11_235 vX11_faultAt (by exact isM.gx (by assumption)) rfl rfl (Nat.le_of_ble_eq_true rfl) ((m_faultAt 0 hB0 hM (N := (m 4).toNat) (by omega) (by omega) (by constructor <;> omega) (by decide) (by omega) (by omega) (by decide) (by omega)).deeper (by omega)) (fun v_78 h_78 q_78 => ?_)
      obtain ⟨rfl, rfl⟩ := q_78
      refine r_ireturn (pc := 81) .int dX11_trialNow_81 rfl (by first | rfl | assumption) ?_
      exact ⟨by unfold trialV; simp (config := {decide := true}) only [*, if_true, if_false, ite_true, ite_false], rfl⟩
    · try simp only [b01_0, bz_0, Classical.not_not] at c_67
      refine rj_iconst (pc := 70) dX11_trialNow_70 ?_
      refine r_goto (pc := 71) (tgt := 81) dX11_trialNow_71 (by decide) ?_
      refine r_ireturn (pc := 81) .int dX11_trialNow_81 rfl (by first | rfl | assumption) ?_
      exact ⟨by unfold trialV; simp (config := {decide := true}) only [*, if_true, if_false, ite_true, ite_false], rfl⟩
  by_cases e_1_3 : k = 3
  · rw [e_1_3] at ho_1
    obtain rfl : off_1 = 81 := ho_1.symm.trans (by decide)
    obtain rfl : tgt_1 = 82 := by omega
    refine r_aload_n (pc := 82) dX11_trialNow_82 rfl (by first | rfl | exact isRefV_rf _) ?_
    refine rm_getf (pc := 83) dX11_trialNow_83 fX11_11 (by assumption) rfl ?_
    refine r_iload_n (pc := 86) dX11_trialNow_86 rfl ?_
    refine rj_iconst (pc := 87) dX11_trialNow_87 ?_
    refine rj_iconst (pc := 88) dX11_trialNow_88 ?_
    refine r_callS3 (pc := 89) dX11_trialNow_89 qX11_ofTask kX11_58 sX11_ofTask (Nat.le_of_ble_eq_true rfl) (m_ofTask _) (fun v_89 h_89 q_89 => ?_)
    obtain ⟨rfl, rfl⟩ := q_89
    refine rj_iald (pc := 92) (j := (1610 + 72 * t).toNat) dX11_trialNow_92 (by first | exact isM.g0 (by assumption) | exact isM.g3 (by assumption) | exact isM.g4 (by assumption) | exact isM.g8 (by assumption) | exact isM.g7 (by assumption) | exact isM.g6 (by assumption) | exact isM.g5 (by assumption) | exact isM.g1 (by assumption) | exact isM.g2 (by assumption)) (by first | assumption | exact b01_r | exact bz_r | omega | (constructor <;> omega) | exact hM _ | exact hPo _ | exact hTa _ | exact hRo _) (by first | assumption | exact b01_r | exact bz_r | omega | (constructor <;> omega) | exact hM _ | exact hPo _ | exact hTa _ | exact hRo _) (by first | assumption | exact b01_r | exact bz_r | omega | (constructor <;> omega) | exact hM _ | exact hPo _ | exact hTa _ | exact hRo _) (by omega) ?_
    refine r_ireturn (pc := 93) .int dX11_trialNow_93 rfl (by first | rfl | assumption) ?_
    exact ⟨by unfold trialV; simp (config := {decide := true}) only [*, if_true, if_false, ite_true, ite_false], rfl⟩
  by_cases e_1_4 : k = 4
  · rw [e_1_4] at ho_1
    obtain rfl : off_1 = 93 := ho_1.symm.trans (by decide)
    obtain rfl : tgt_1 = 94 := by omega
    refine r_aload_n (pc := 94) dX11_trialNow_94 rfl (by first | rfl | exact isRefV_rf _) ?_
    refine rm_getf (pc := 95) dX11_trialNow_95 fX11_11 (by assumption) rfl ?_
    refine r_iload_n (pc := 98) dX11_trialNow_98 rfl ?_
    refine rj_iconst (pc := 99) dX11_trialNow_99 ?_
    refine rj_iconst (pc := 100) dX11_trialNow_100 ?_
    refine r_callS3 (pc := 101) dX11_trialNow_101 qX11_ofTask kX11_58 sX11_ofTask (Nat.le_of_ble_eq_true rfl) (m_ofTask _) (fun v_101 h_101 q_101 => ?_)
    obtain ⟨rfl, rfl⟩ := q_101
    refine rj_iald (pc := 104) (j := (1612 + 72 * t).toNat) dX11_trialNow_104 (by first | exact isM.g0 (by assumption) | exact isM.g3 (by assumption) | exact isM.g4 (by assumption) | exact isM.g8 (by assumption) | exact isM.g7 (by assumption) | exact isM.g6 (by assumption) | exact isM.g5 (by assumption) | exact isM.g1 (by assumption) | exact isM.g2 (by assumption)) (by first | assumption | exact b01_r | exact bz_r | omega | (constructor <;> omega) | exact hM _ | exact hPo _ | exact hTa _ | exact hRo _) (by first | assumption | exact b01_r | exact bz_r | omega | (constructor <;> omega) | exact hM _ | exact hPo _ | exact hTa _ | exact hRo _) (by first | assumption | exact b01_r | exact bz_r | omega | (constructor <;> omega) | exact hM _ | exact hPo _ | exact hTa _ | exact hRo _) (by omega) ?_
    refine r_ireturn (pc := 105) .int dX11_trialNow_105 rfl (by first | rfl | assumption) ?_
    exact ⟨by unfold trialV; simp (config := {decide := true}) only [*, if_true, if_false, ite_true, ite_false], rfl⟩
  have eo_1 : off_1 = 105 := by
    rw [← ho_1]
    unfold tswOff
    rw [if_pos (by omega)]
  obtain rfl : tgt_1 = 106 := by omega
  refine r_aload_n (pc := 106) dX11_trialNow_106 rfl (by first | rfl | exact isRefV_rf _) ?_
  refine rm_getf (pc := 107) dX11_trialNow_107 fX11_11 (by assumption) rfl ?_
  refine rj_iconst (pc := 110) dX11_trialNow_110 ?_
  refine rj_iald (pc := 111) (j := 2) dX11_trialNow_111 (by first | exact isM.g0 (by assumption) | exact isM.g3 (by assumption) | exact isM.g4 (by assumption) | exact isM.g8 (by assumption) | exact isM.g7 (by assumption) | exact isM.g6 (by assumption) | exact isM.g5 (by assumption) | exact isM.g1 (by assumption) | exact isM.g2 (by assumption)) (by first | assumption | exact b01_r | exact bz_r | omega | (constructor <;> omega) | exact hM _ | exact hPo _ | exact hTa _ | exact hRo _) (by first | assumption | exact b01_r | exact bz_r | omega | (constructor <;> omega) | exact hM _ | exact hPo _ | exact hTa _ | exact hRo _) (by first | assumption | exact b01_r | exact bz_r | omega | (constructor <;> omega) | exact hM _ | exact hPo _ | exact hTa _ | exact hRo _) (by omega) ?_
  refine r_ireturn (pc := 112) .int dX11_trialNow_112 rfl (by first | rfl | assumption) ?_
  exact ⟨by unfold trialV; simp (config := {decide := true}) only [*, if_true, if_false, ite_true, ite_false], rfl⟩
set_option maxHeartbeats 4000000 in
set_option maxRecDepth 100000 in
theorem m_trial {G : mG} {l : Launch} {x s : Nat} {f4 f6 f8 f9 f10 f11 f12 f13 f14 f16 f18 : Int} {kp was pool tape pln pap rwd rw : Nat → Int} (hPo : ∀ q, InR (pool q)) (h14 : InR f14) {m m' : Nat → Int} {h : mH} (hB : isM h x (mFs x f4 f6 f8 f9 f10 f11 f12 f13 f14 f16 f18 s) m kp was pool tape pln pap rwd rw) (hok : mOk m) {t n k : Int} {kk : Nat} (ht : InR t) (hn : InR n) (hk : InR k) (hR : (0 ≤ n ∧ n ≤ 100) → ticksR pool n.toNat m kk m' ∧ mOk m') : RUNM G l 403 mX11_trial [.ref x, .int (J t), .int (J n), .int (J k)] h (fun v h' => (¬ ((0 ≤ t ∧ t ≤ m 3 - 1) ∧ (0 ≤ k ∧ k ≤ 5)) ∧ v = some (.int (J (-1))) ∧ h' = h) ∨ (((0 ≤ t ∧ t ≤ m 3 - 1) ∧ (0 ≤ k ∧ k ≤ 5)) ∧ ¬ (0 ≤ n ∧ n ≤ 100) ∧ v = some (.int (J (-2))) ∧ h' = h) ∨ (((0 ≤ t ∧ t ≤ m 3 - 1) ∧ (0 ≤ k ∧ k ≤ 5)) ∧ (0 ≤ n ∧ n ≤ 100) ∧ v = some (.int (J (trialV m' t k))) ∧ (∃ was' g14, InR g14 ∧ isM h' x (mFs x f4 f6 f8 f9 f10 f11 f12 f13 g14 f16 f18 s) m kp was' pool tape pln pap rwd rw) ∧ Same (mBlk x) h h')) := by
  obtain ⟨hM, k0, k1, k2, k3, k4, k5, k7⟩ := id hok
  have hB0 := hB
  dsimp only [mFs] at hB
  refine RUNM.of (by decide +kernel) (Nat.le_of_ble_eq_true rfl) ?_
  refine r_aload_n (pc := 0) dX11_trial_0 rfl (by first | rfl | exact isRefV_rf _) ?_
  refine r_iload_n (pc := 1) dX11_trial_1 rfl ?_
  refine r_callV1 (pc := 2) dX11_trial_2 qX11_isTask kX11_180 vX11_isTask (by exact isM.gx (by assumption)) rfl rfl (Nat.le_of_ble_eq_true rfl) ((m_isTask 0 hB0 ht ⟨by omega, by omega⟩).deeper (by omega)) (fun v_2 h_2 q_2 => ?_)
  obtain ⟨rfl, rfl⟩ := q_2
  refine rj_if_eq (pc := 5) (tgt := 17) dX11_trial_5 (by decide) (by first | assumption | exact b01_r | exact bz_r | omega | (constructor <;> omega) | exact hM _ | exact hPo _ | exact hTa _ | exact hRo _) (fun c_5 => ?_) (fun c_5 => ?_)
  · try simp only [b01_0, bz_0, Classical.not_not] at c_5
    refine rj_iconst (pc := 17) dX11_trial_17 ?_
    refine r_ireturn (pc := 18) .int dX11_trial_18 rfl (by first | rfl | assumption) ?_
    first | exact Or.inl ⟨fun g => c_5 g.1, rfl, rfl⟩ | exact Or.inl ⟨fun g => c_14 g.2, rfl, rfl⟩
  · try simp only [b01_0, bz_0, Classical.not_not] at c_5
    refine r_iload_n (pc := 8) dX11_trial_8 rfl ?_
    refine rj_iconst (pc := 9) dX11_trial_9 ?_
    refine rj_iconst (pc := 10) dX11_trial_10 ?_
    refine r_callS3 (pc := 11) dX11_trial_11 qX11_isIn kX11_46 sX11_isIn (Nat.le_of_ble_eq_true rfl) ((m_isIn 0 hk (by decide) (by decide)).deeper (by omega)) (fun v_11 h_11 q_11 => ?_)
    obtain ⟨rfl, rfl⟩ := q_11
    refine rj_if_ne (pc := 14) (tgt := 19) dX11_trial_14 (by decide) (by first | assumption | exact b01_r | exact bz_r | omega | (constructor <;> omega) | exact hM _ | exact hPo _ | exact hTa _ | exact hRo _) (fun c_14 => ?_) (fun c_14 => ?_)
    · try simp only [b01_0, bz_0, Classical.not_not] at c_14
      refine r_iload_n (pc := 19) dX11_trial_19 rfl ?_
      refine rj_iconst (pc := 20) dX11_trial_20 ?_
      refine rj_bipush (pc := 21) dX11_trial_21 (by decide +kernel) ?_
      refine r_callS3 (pc := 23) dX11_trial_23 qX11_isIn kX11_46 sX11_isIn (Nat.le_of_ble_eq_true rfl) ((m_isIn 0 hn (by decide) (by decide)).deeper (by omega)) (fun v_23 h_23 q_23 => ?_)
      obtain ⟨rfl, rfl⟩ := q_23
      refine rj_if_ne (pc := 26) (tgt := 32) dX11_trial_26 (by decide) (by first | assumption | exact b01_r | exact bz_r | omega | (constructor <;> omega) | exact hM _ | exact hPo _ | exact hTa _ | exact hRo _) (fun c_26 => ?_) (fun c_26 => ?_)
      · try simp only [b01_0, bz_0, Classical.not_not] at c_26
        refine r_aload_n (pc := 32) dX11_trial_32 rfl (by first | rfl | exact isRefV_rf _) ?_
        refine rm_getf (pc := 33) dX11_trial_33 fX11_11 (by assumption) rfl ?_
        refine r_aload_n (pc := 36) dX11_trial_36 rfl (by first | rfl | exact isRefV_rf _) ?_
        refine rm_getf (pc := 37) dX11_trial_37 fX11_18 (by assumption) rfl ?_
        refine r_callS2 (pc := 40) dX11_trial_40 qX11_copies kX11_279 sX11_copies (Nat.le_of_ble_eq_true rfl) ((m_copies 0 (mAd_ne (by decide)) hB.g0 hB.g2 (hB.loA 2)).deeper (Nat.zero_le _)) (fun v_40 h_40 q_40 => ?_)
        obtain ⟨rfl, G_40, S_40⟩ := q_40
        have hB_40 := hB0.cp2 S_40 G_40
        have T_40 := S_40.blk2
        refine r_aload_n (pc := 43) dX11_trial_43 rfl (by first | rfl | exact isRefV_rf _) ?_
        refine r_iload_n (pc := 44) dX11_trial_44 rfl ?_
        refine r_callV1 (pc := 45) dX11_trial_45 qX11_ticks kX11_214 vX11_ticks (by exact isM.gx (by assumption)) rfl rfl (Nat.le_of_ble_eq_true rfl) (by have y := m_ticks (G := G) (l := l) hPo h14 (B := n.toNat) (k := kk) (by omega) hB_40 (hR c_26).1; rw [show ((n.toNat : Nat) : Int) = n by omega] at y; exact y.deeper (by omega)) (fun v_45 h_45 q_45 => ?_)
        obtain ⟨rfl, ⟨g14, hg14, hB_45⟩, S_45⟩ := q_45
        refine r_pop (pc := 48) dX11_trial_48 (by first | rfl | (cases ‹Option Nat› <;> rfl)) ?_
        refine r_aload_n (pc := 49) dX11_trial_49 rfl (by first | rfl | exact isRefV_rf _) ?_
        refine r_iload_n (pc := 50) dX11_trial_50 rfl ?_
        refine r_iload_n (pc := 51) dX11_trial_51 rfl ?_
        refine r_callV2 (pc := 52) dX11_trial_52 qX11_trialNow kX11_289 vX11_trialNow (by exact isM.gx (by assumption)) rfl rfl (Nat.le_of_ble_eq_true rfl) ((m_trialNow 0 hB_45 (hR c_26).2 ⟨by omega, by omega⟩ hk).deeper (by omega)) (fun v_52 h_52 q_52 => ?_)
        obtain ⟨rfl, rfl⟩ := q_52
        refine r_istore (pc := 55) dX11_trial_55 (Nat.le_of_ble_eq_true rfl) ?_
        dsimp only [lsSt, List.set, mLs, mEnt]
        refine r_aload_n (pc := 57) dX11_trial_57 rfl (by first | rfl | exact isRefV_rf _) ?_
        refine rm_getf (pc := 58) dX11_trial_58 fX11_18 (by assumption) rfl ?_
        refine r_aload_n (pc := 61) dX11_trial_61 rfl (by first | rfl | exact isRefV_rf _) ?_
        refine rm_getf (pc := 62) dX11_trial_62 fX11_11 (by assumption) rfl ?_
        refine r_callS2 (pc := 65) dX11_trial_65 qX11_copies kX11_279 sX11_copies (Nat.le_of_ble_eq_true rfl) ((m_copies 0 (mAd_ne (by decide)) hB_45.g2 hB_45.g0 (hB_45.loA 0)).deeper (Nat.zero_le _)) (fun v_65 h_65 q_65 => ?_)
        obtain ⟨rfl, G_65, S_65⟩ := q_65
        have hB_65 := hB_45.cp0 S_65 G_65
        have T_65 := S_65.blk0
        refine RUN.norm (hB_65.loA 0) G_65 (f' := fun q => J (m q)) (fun q hq => by rw [cpF_cp hq]) ?_
        refine r_iload (pc := 68) dX11_trial_68 rfl ?_
        refine r_ireturn (pc := 70) .int dX11_trial_70 rfl (by first | rfl | assumption) ?_
        exact Or.inr (Or.inr ⟨⟨c_5, c_14⟩, c_26, rfl, ⟨_, g14, hg14, hB_65.put0 m⟩, ((T_40.trans S_45).trans T_65).trans (Same.refl.put (mAd_blk (by decide)))⟩)
      · try simp only [b01_0, bz_0, Classical.not_not] at c_26
        refine rj_bipush (pc := 29) dX11_trial_29 (by decide +kernel) ?_
        refine r_ireturn (pc := 31) .int dX11_trial_31 rfl (by first | rfl | assumption) ?_
        exact Or.inr (Or.inl ⟨⟨c_5, c_14⟩, c_26, rfl, rfl⟩)
    · try simp only [b01_0, bz_0, Classical.not_not] at c_14
      refine rj_iconst (pc := 17) dX11_trial_17 ?_
      refine r_ireturn (pc := 18) .int dX11_trial_18 rfl (by first | rfl | assumption) ?_
      first | exact Or.inl ⟨fun g => c_5 g.1, rfl, rfl⟩ | exact Or.inl ⟨fun g => c_14 g.2, rfl, rfl⟩
set_option maxHeartbeats 4000000 in
set_option maxRecDepth 100000 in
theorem m_image {G : mG} {l : Launch} (d : Nat) {h : mH} {x s : Nat} {f4 f6 f8 f9 f10 f11 f12 f13 f14 f16 f18 : Int} {m kp was pool tape pln pap rwd rw : Nat → Int}(hB : isM h x (mFs x f4 f6 f8 f9 f10 f11 f12 f13 f14 f16 f18 s) m kp was pool tape pln pap rwd rw) (hok : mOk m) : RUNM G l (d + 3) mX11_image [.ref x] h (fun v h' => v = some (.int (J (cnt (heldB m) (m 1).toNat))) ∧ isM h' x (mFs x 1 f6 f8 f9 f10 f11 f12 f13 f14 f16 f18 s) m m was pool tape pln pap rwd rw ∧ Same (mBlk x) h h') := by
  obtain ⟨hM, k0, k1, k2, k3, k4, k5, k7⟩ := id hok
  have hB0 := hB
  dsimp only [mFs] at hB
  refine RUNM.of (by decide +kernel) (Nat.le_of_ble_eq_true rfl) ?_
  refine r_aload_n (pc := 0) dX11_image_0 rfl (by first | rfl | exact isRefV_rf _) ?_
  refine rm_getf (pc := 1) dX11_image_1 fX11_11 (by assumption) rfl ?_
  refine r_aload_n (pc := 4) dX11_image_4 rfl (by first | rfl | exact isRefV_rf _) ?_
  refine rm_getf (pc := 5) dX11_image_5 fX11_15 (by assumption) rfl ?_
  refine r_callS2 (pc := 8) dX11_image_8 qX11_copies kX11_279 sX11_copies (Nat.le_of_ble_eq_true rfl) (m_copies _ (mAd_ne (by decide)) hB.g0 hB.g1 (hB.loA 1)) (fun v_8 h_8 q_8 => ?_)
  obtain ⟨rfl, G_8, S_8⟩ := q_8
  have hB_8 := hB0.cp1 S_8 G_8
  have T_8 := S_8.blk1
  refine RUN.norm (hB_8.loA 1) G_8 (f' := fun q => J (m q)) (fun q hq => by rw [cpF_lt hq]) ?_
  replace hB_8 := hB_8.put1 m
  dsimp only [mFs] at hB_8
  refine r_aload_n (pc := 11) dX11_image_11 rfl (by first | rfl | exact isRefV_rf _) ?_
  refine rj_iconst (pc := 12) dX11_image_12 ?_
  refine rm_putf (pc := 13) dX11_image_13 fX11_310 (by assumption) nar_J1 fit_J1 (Nat.le_of_ble_eq_true rfl) (fun h_13 hB_13 hS_13 => ?_)
  dsimp only [List.set, mFs] at hB_13
  have hB_13b : isM h_13 x (mFs x 1 f6 f8 f9 f10 f11 f12 f13 f14 f16 f18 s) m m was pool tape pln pap rwd rw := hB_13
  refine r_aload_n (pc := 16) dX11_image_16 rfl (by first | rfl | exact isRefV_rf _) ?_
  refine r_callV0 (pc := 17) dX11_image_17 qX11_held kX11_276 vX11_held (by exact isM.gx (by assumption)) rfl rfl (Nat.le_of_ble_eq_true rfl) (m_held d hB_13b hM (N := (m 1).toNat) (by omega) (by omega)) (fun v_17 h_17 q_17 => ?_)
  obtain ⟨rfl, rfl⟩ := q_17
  refine r_ireturn (pc := 20) .int dX11_image_20 rfl (by first | rfl | assumption) ?_
  exact ⟨rfl, hB_13b, (T_8.trans (Same.refl.put (mAd_blk (by decide)))).trans hS_13⟩
set_option maxHeartbeats 4000000 in
set_option maxRecDepth 100000 in
theorem m_undo {G : mG} {l : Launch} (d : Nat) {h : mH} {x s : Nat} {f4 f6 f8 f9 f10 f11 f12 f13 f14 f16 f18 : Int} {m kp was pool tape pln pap rwd rw : Nat → Int}(hB : isM h x (mFs x f4 f6 f8 f9 f10 f11 f12 f13 f14 f16 f18 s) m kp was pool tape pln pap rwd rw) (h4 : f4 = 0 ∨ f4 = 1) (hok : mOk kp) : RUNM G l (d + 3) mX11_undo [.ref x] h (fun v h' => (f4 = 0 ∧ v = some (.int (J (-3))) ∧ h' = h) ∨ (f4 = 1 ∧ v = some (.int (J (cnt (heldB kp) (kp 1).toNat))) ∧ isM h' x (mFs x f4 f6 f8 f9 f10 f11 f12 f13 f14 f16 f18 s) kp kp was pool tape pln pap rwd rw ∧ Same (mBlk x) h h')) := by
  obtain ⟨hM, k0, k1, k2, k3, k4, k5, k7⟩ := id hok
  have hB0 := hB
  dsimp only [mFs] at hB
  refine RUNM.of (by decide +kernel) (Nat.le_of_ble_eq_true rfl) ?_
  refine r_aload_n (pc := 0) dX11_undo_0 rfl (by first | rfl | exact isRefV_rf _) ?_
  refine rm_getf (pc := 1) dX11_undo_1 fX11_310 (by assumption) rfl ?_
  refine rj_if_ne (pc := 4) (tgt := 10) dX11_undo_4 (by decide) (by first | assumption | exact b01_r | exact bz_r | omega | (constructor <;> omega) | exact hM _ | exact hPo _ | exact hTa _ | exact hRo _) (fun c_4 => ?_) (fun c_4 => ?_)
  · try simp only [b01_0, bz_0, Classical.not_not] at c_4
    refine r_aload_n (pc := 10) dX11_undo_10 rfl (by first | rfl | exact isRefV_rf _) ?_
    refine rm_getf (pc := 11) dX11_undo_11 fX11_15 (by assumption) rfl ?_
    refine r_aload_n (pc := 14) dX11_undo_14 rfl (by first | rfl | exact isRefV_rf _) ?_
    refine rm_getf (pc := 15) dX11_undo_15 fX11_11 (by assumption) rfl ?_
    refine r_callS2 (pc := 18) dX11_undo_18 qX11_copies kX11_279 sX11_copies (Nat.le_of_ble_eq_true rfl) (m_copies _ (mAd_ne (by decide)) hB.g1 hB.g0 (hB.loA 0)) (fun v_18 h_18 q_18 => ?_)
    obtain ⟨rfl, G_18, S_18⟩ := q_18
    have hB_18 := hB0.cp0 S_18 G_18
    have T_18 := S_18.blk0
    refine RUN.norm (hB_18.loA 0) G_18 (f' := fun q => J (kp q)) (fun q hq => by rw [cpF_lt hq]) ?_
    replace hB_18 := hB_18.put0 kp
    refine r_aload_n (pc := 21) dX11_undo_21 rfl (by first | rfl | exact isRefV_rf _) ?_
    refine r_callV0 (pc := 22) dX11_undo_22 qX11_held kX11_276 vX11_held (by exact isM.gx (by assumption)) rfl rfl (Nat.le_of_ble_eq_true rfl) (m_held d hB_18 hM (N := (kp 1).toNat) (by omega) (by omega)) (fun v_22 h_22 q_22 => ?_)
    obtain ⟨rfl, rfl⟩ := q_22
    refine r_ireturn (pc := 25) .int dX11_undo_25 rfl (by first | rfl | assumption) ?_
    exact Or.inr ⟨by omega, rfl, hB_18, T_18.trans (Same.refl.put (mAd_blk (by decide)))⟩
  · try simp only [b01_0, bz_0, Classical.not_not] at c_4
    refine rj_bipush (pc := 7) dX11_undo_7 (by decide +kernel) ?_
    refine r_ireturn (pc := 9) .int dX11_undo_9 rfl (by first | rfl | assumption) ?_
    exact Or.inl ⟨by omega, rfl, rfl⟩
end mg_72
section mg_73
/-! ===== the reference: rows copied, THE LOG laid, names compared ===== -/
def cpR (rw : Nat → Int) (a b lo hi : Nat) : Nat → Int := fun q => if b + lo ≤ q ∧ q < b + hi then rw (a + (q - b)) else rw q
theorem cpR_0 (rw : Nat → Int) (a b k : Nat) : cpR rw a b k k = rw := by
  funext q; unfold cpR; rw [if_neg (by omega)]
theorem cpR_up (rw : Nat → Int) (a b k : Nat) : updI (cpR rw a b 0 k) (b + k) (rw (a + k)) = cpR rw a b 0 (k + 1) := by
  funext q
  unfold updI cpR
  by_cases h : q = b + k
  · subst h; rw [if_pos rfl, if_pos (by omega)]; congr 1; omega
  · rw [if_neg h]
    by_cases h2 : b + 0 ≤ q ∧ q < b + k
    · rw [if_pos h2, if_pos (by omega)]
    · rw [if_neg h2, if_neg (by omega)]
theorem cpR_dn (rw : Nat → Int) (a b k n : Nat) (hk : k < n) : updI (cpR rw a b (k + 1) n) (b + k) (rw (a + k)) = cpR rw a b k n := by
  funext q
  unfold updI cpR
  by_cases h : q = b + k
  · subst h; rw [if_pos rfl, if_pos (by omega)]; congr 1; omega
  · rw [if_neg h]
    by_cases h2 : b + (k + 1) ≤ q ∧ q < b + n
    · rw [if_pos h2, if_pos (by omega)]
    · rw [if_neg h2, if_neg (by omega)]
theorem cpR_n {rw : Nat → Int} {a b lo hi q : Nat} (h : ¬ (b + lo ≤ q ∧ q < b + hi)) : cpR rw a b lo hi q = rw q := if_neg h
def copyV (rwd : Nat → Int) (r i o j n : Int) : Int := if (0 ≤ r ∧ r ≤ 3) ∧ (0 ≤ o ∧ o ≤ 3) then (if rwd r.toNat < 0 ∨ rwd o.toNat < 0 then -11 else (if n < 0 ∨ i < 0 ∨ j < 0 ∨ rwd r.toNat - i < n ∨ rwd o.toNat - j < n then -13 else n)) else -1
abbrev copyDo (rwd : Nat → Int) (r i o j n : Int) : Prop := ((0 ≤ r ∧ r ≤ 3) ∧ (0 ≤ o ∧ o ≤ 3)) ∧ (0 ≤ rwd r.toNat ∧ 0 ≤ rwd o.toNat) ∧ 0 ≤ n ∧ 0 ≤ i ∧ 0 ≤ j ∧ n ≤ rwd r.toNat - i ∧ n ≤ rwd o.toNat - j
set_option maxHeartbeats 4000000 in
set_option maxRecDepth 100000 in
theorem L_copyUp {G : mG} {l : Launch} (d : Nat) {x s : Nat} {f4 f6 f8 f9 f10 f11 f12 f13 f14 f16 f18 : Int} {m kp was pool tape pln pap rwd rw : Nat → Int} {r i o j n : Int} (hc : copyDo rwd r i o j n) (h40 : ∀ q, rwd q ≤ 40) (hij : j < i) : ∀ (k e : Nat) (h : mH) (v7 : Option Value), (e : Int) + k = n → isM h x (mFs x f4 f6 f8 f9 f10 f11 f12 f13 f14 f16 f18 s) m kp was pool tape pln pap rwd (cpR rw (40 * r + i).toNat (40 * o + j).toNat 0 e) → RUN G l d mX11_copy 84 [some (.ref x), some (.int (J r)), some (.int (J i)), some (.int (J o)), some (.int (J j)), some (.int (J n)), some (.int (J (e : Int))), v7] [] h (fun v h' => v = some (.int (J n)) ∧ isM h' x (mFs x f4 f6 f8 f9 f10 f11 f12 f13 f14 f16 f18 s) m kp was pool tape pln pap rwd (cpR rw (40 * r + i).toNat (40 * o + j).toNat 0 n.toNat) ∧ Same (mBlk x) h h') := by
  obtain ⟨⟨⟨r0, r3⟩, ⟨o0, o3⟩⟩, ⟨w1, w2⟩, n0, i0, j0, ni, nj⟩ := id hc
  have q1 := h40 r.toNat
  have q2 := h40 o.toNat
  intro k
  induction k with
  | zero =>
    intro e h v7 he hB
    have hB0 := hB
    dsimp only [mFs] at hB
    refine r_iload (pc := 84) dX11_copy_84 rfl ?_
    refine r_iload (pc := 86) dX11_copy_86 rfl ?_
    refine rj_icmp_ge (pc := 88) (tgt := 146) dX11_copy_88 (by decide) (by first | assumption | exact b01_r | exact bz_r | omega | (constructor <;> omega) | exact hM _ | exact hPo _ | exact hTa _ | exact hRo _) (by first | assumption | exact b01_r | exact bz_r | omega | (constructor <;> omega) | exact hM _ | exact hPo _ | exact hTa _ | exact hRo _) (fun c_88 => ?_) (fun c_88 => ?_)
    · refine r_iload (pc := 146) dX11_copy_146 rfl ?_
      refine r_ireturn (pc := 148) .int dX11_copy_148 rfl (by first | rfl | assumption) ?_
      have en : e = n.toNat := by omega
      subst en
      exact ⟨rfl, hB0, Same.refl⟩
    · exfalso; omega
  | succ k ih =>
    intro e h v7 he hB
    have hB0 := hB
    dsimp only [mFs] at hB
    refine r_iload (pc := 84) dX11_copy_84 rfl ?_
    refine r_iload (pc := 86) dX11_copy_86 rfl ?_
    refine rj_icmp_ge (pc := 88) (tgt := 146) dX11_copy_88 (by decide) (by first | assumption | exact b01_r | exact bz_r | omega | (constructor <;> omega) | exact hM _ | exact hPo _ | exact hTa _ | exact hRo _) (by first | assumption | exact b01_r | exact bz_r | omega | (constructor <;> omega) | exact hM _ | exact hPo _ | exact hTa _ | exact hRo _) (fun c_88 => ?_) (fun c_88 => ?_)
    · exfalso; omega
    · refine r_iload_n (pc := 91) dX11_copy_91 rfl ?_
      refine r_iload (pc := 92) dX11_copy_92 rfl ?_
      refine rj_icmp_le (pc := 94) (tgt := 102) dX11_copy_94 (by decide) (by first | assumption | exact b01_r | exact bz_r | omega | (constructor <;> omega) | exact hM _ | exact hPo _ | exact hTa _ | exact hRo _) (by first | assumption | exact b01_r | exact bz_r | omega | (constructor <;> omega) | exact hM _ | exact hPo _ | exact hTa _ | exact hRo _) (fun c_94 => ?_) (fun c_94 => ?_)
      · exfalso; omega
      · refine r_iload (pc := 97) dX11_copy_97 rfl ?_
        refine r_goto (pc := 99) (tgt := 109) dX11_copy_99 (by decide) ?_
        refine r_istore (pc := 109) dX11_copy_109 (Nat.le_of_ble_eq_true rfl) ?_
        dsimp only [lsSt, List.set, mLs, mEnt]
        refine r_aload_n (pc := 111) dX11_copy_111 rfl (by first | rfl | exact isRefV_rf _) ?_
        refine rm_getf (pc := 112) dX11_copy_112 fX11_39 (by assumption) rfl ?_
        refine rj_bipush (pc := 115) dX11_copy_115 (by decide +kernel) ?_
        refine r_iload_n (pc := 117) dX11_copy_117 rfl ?_
        refine rj_imul (pc := 118) dX11_copy_118 ?_
        refine r_iload (pc := 119) dX11_copy_119 rfl ?_
        refine rj_iadd (pc := 121) dX11_copy_121 ?_
        refine r_iload (pc := 122) dX11_copy_122 rfl ?_
        refine rj_iadd (pc := 124) dX11_copy_124 ?_
        refine r_aload_n (pc := 125) dX11_copy_125 rfl (by first | rfl | exact isRefV_rf _) ?_
        refine rm_getf (pc := 126) dX11_copy_126 fX11_39 (by assumption) rfl ?_
        refine rj_bipush (pc := 129) dX11_copy_129 (by decide +kernel) ?_
        refine r_iload_n (pc := 131) dX11_copy_131 rfl ?_
        refine rj_imul (pc := 132) dX11_copy_132 ?_
        refine r_iload_n (pc := 133) dX11_copy_133 rfl ?_
        refine rj_iadd (pc := 134) dX11_copy_134 ?_
        refine r_iload (pc := 135) dX11_copy_135 rfl ?_
        refine rj_iadd (pc := 137) dX11_copy_137 ?_
        refine rj_iald (pc := 138) (j := (40 * r + i).toNat + e) dX11_copy_138 (by first | exact isM.g0 (by assumption) | exact isM.g3 (by assumption) | exact isM.g4 (by assumption) | exact isM.g8 (by assumption) | exact isM.g7 (by assumption) | exact isM.g6 (by assumption) | exact isM.g5 (by assumption) | exact isM.g1 (by assumption) | exact isM.g2 (by assumption)) (by first | assumption | exact b01_r | exact bz_r | omega | (constructor <;> omega) | exact hM _ | exact hPo _ | exact hTa _ | exact hRo _) (by first | assumption | exact b01_r | exact bz_r | omega | (constructor <;> omega) | exact hM _ | exact hPo _ | exact hTa _ | exact hRo _) (by first | assumption | exact b01_r | exact bz_r | omega | (constructor <;> omega) | exact hM _ | exact hPo _ | exact hTa _ | exact hRo _) (by omega) ?_
        have e1 : cpR rw (40 * r + i).toNat (40 * o + j).toNat 0 e ((40 * r + i).toNat + e) = rw ((40 * r + i).toNat + e) := cpR_n (by omega)
        rw [e1]
        first | refine rm_iast8 (pc := 139) (j := (40 * o + j).toNat + e) dX11_copy_139 (by assumption) (by first | assumption | exact b01_r | exact bz_r | omega | (constructor <;> omega) | exact hM _ | exact hPo _ | exact hTa _ | exact hRo _) (by first | assumption | exact b01_r | exact bz_r | omega | (constructor <;> omega) | exact hM _ | exact hPo _ | exact hTa _ | exact hRo _) (by first | assumption | exact b01_r | exact bz_r | omega | (constructor <;> omega) | exact hM _ | exact hPo _ | exact hTa _ | exact hRo _) (by omega) (fun h_139 hB_139 hS_139 => ?_)
        rw [cpR_up] at hB_139
        refine rj_iinc (pc := 140) dX11_copy_140 (Nat.le_of_ble_eq_true rfl) rfl ?_
        dsimp only [lsSt, List.set, mLs, mEnt]
        refine r_goto (pc := 143) (tgt := 84) dX11_copy_143 (by decide) ?_
        rw [show ((e : Int) + 1) = ((e + 1 : Nat) : Int) by omega]
        exact (ih (e + 1) _ _ (by omega) hB_139).mono (fun v h' q => ⟨q.1, q.2.1, hS_139.trans q.2.2⟩)
set_option maxHeartbeats 4000000 in
set_option maxRecDepth 100000 in
theorem L_copyDn {G : mG} {l : Launch} (d : Nat) {x s : Nat} {f4 f6 f8 f9 f10 f11 f12 f13 f14 f16 f18 : Int} {m kp was pool tape pln pap rwd rw : Nat → Int} {r i o j n : Int} (hc : copyDo rwd r i o j n) (h40 : ∀ q, rwd q ≤ 40) (hij : i ≤ j) : ∀ (k e : Nat) (h : mH) (v7 : Option Value), (e : Int) + k = n → isM h x (mFs x f4 f6 f8 f9 f10 f11 f12 f13 f14 f16 f18 s) m kp was pool tape pln pap rwd (cpR rw (40 * r + i).toNat (40 * o + j).toNat (n.toNat - e) n.toNat) → RUN G l d mX11_copy 84 [some (.ref x), some (.int (J r)), some (.int (J i)), some (.int (J o)), some (.int (J j)), some (.int (J n)), some (.int (J (e : Int))), v7] [] h (fun v h' => v = some (.int (J n)) ∧ isM h' x (mFs x f4 f6 f8 f9 f10 f11 f12 f13 f14 f16 f18 s) m kp was pool tape pln pap rwd (cpR rw (40 * r + i).toNat (40 * o + j).toNat 0 n.toNat) ∧ Same (mBlk x) h h') := by
  obtain ⟨⟨⟨r0, r3⟩, ⟨o0, o3⟩⟩, ⟨w1, w2⟩, n0, i0, j0, ni, nj⟩ := id hc
  have q1 := h40 r.toNat
  have q2 := h40 o.toNat
  intro k
  induction k with
  | zero =>
    intro e h v7 he hB
    have hB0 := hB
    dsimp only [mFs] at hB
    refine r_iload (pc := 84) dX11_copy_84 rfl ?_
    refine r_iload (pc := 86) dX11_copy_86 rfl ?_
    refine rj_icmp_ge (pc := 88) (tgt := 146) dX11_copy_88 (by decide) (by first | assumption | exact b01_r | exact bz_r | omega | (constructor <;> omega) | exact hM _ | exact hPo _ | exact hTa _ | exact hRo _) (by first | assumption | exact b01_r | exact bz_r | omega | (constructor <;> omega) | exact hM _ | exact hPo _ | exact hTa _ | exact hRo _) (fun c_88 => ?_) (fun c_88 => ?_)
    · refine r_iload (pc := 146) dX11_copy_146 rfl ?_
      refine r_ireturn (pc := 148) .int dX11_copy_148 rfl (by first | rfl | assumption) ?_
      have en : e = n.toNat := by omega
      subst en
      rw [Nat.sub_self] at hB0
      exact ⟨rfl, hB0, Same.refl⟩
    · exfalso; omega
  | succ k ih =>
    intro e h v7 he hB
    have hB0 := hB
    dsimp only [mFs] at hB
    refine r_iload (pc := 84) dX11_copy_84 rfl ?_
    refine r_iload (pc := 86) dX11_copy_86 rfl ?_
    refine rj_icmp_ge (pc := 88) (tgt := 146) dX11_copy_88 (by decide) (by first | assumption | exact b01_r | exact bz_r | omega | (constructor <;> omega) | exact hM _ | exact hPo _ | exact hTa _ | exact hRo _) (by first | assumption | exact b01_r | exact bz_r | omega | (constructor <;> omega) | exact hM _ | exact hPo _ | exact hTa _ | exact hRo _) (fun c_88 => ?_) (fun c_88 => ?_)
    · exfalso; omega
    · refine r_iload_n (pc := 91) dX11_copy_91 rfl ?_
      refine r_iload (pc := 92) dX11_copy_92 rfl ?_
      refine rj_icmp_le (pc := 94) (tgt := 102) dX11_copy_94 (by decide) (by first | assumption | exact b01_r | exact bz_r | omega | (constructor <;> omega) | exact hM _ | exact hPo _ | exact hTa _ | exact hRo _) (by first | assumption | exact b01_r | exact bz_r | omega | (constructor <;> omega) | exact hM _ | exact hPo _ | exact hTa _ | exact hRo _) (fun c_94 => ?_) (fun c_94 => ?_)
      · refine r_iload (pc := 102) dX11_copy_102 rfl ?_
        refine rj_iconst (pc := 104) dX11_copy_104 ?_
        refine rj_isub (pc := 105) dX11_copy_105 ?_
        refine r_iload (pc := 106) dX11_copy_106 rfl ?_
        refine rj_isub (pc := 108) dX11_copy_108 ?_
        refine r_istore (pc := 109) dX11_copy_109 (Nat.le_of_ble_eq_true rfl) ?_
        dsimp only [lsSt, List.set, mLs, mEnt]
        refine r_aload_n (pc := 111) dX11_copy_111 rfl (by first | rfl | exact isRefV_rf _) ?_
        refine rm_getf (pc := 112) dX11_copy_112 fX11_39 (by assumption) rfl ?_
        refine rj_bipush (pc := 115) dX11_copy_115 (by decide +kernel) ?_
        refine r_iload_n (pc := 117) dX11_copy_117 rfl ?_
        refine rj_imul (pc := 118) dX11_copy_118 ?_
        refine r_iload (pc := 119) dX11_copy_119 rfl ?_
        refine rj_iadd (pc := 121) dX11_copy_121 ?_
        refine r_iload (pc := 122) dX11_copy_122 rfl ?_
        refine rj_iadd (pc := 124) dX11_copy_124 ?_
        refine r_aload_n (pc := 125) dX11_copy_125 rfl (by first | rfl | exact isRefV_rf _) ?_
        refine rm_getf (pc := 126) dX11_copy_126 fX11_39 (by assumption) rfl ?_
        refine rj_bipush (pc := 129) dX11_copy_129 (by decide +kernel) ?_
        refine r_iload_n (pc := 131) dX11_copy_131 rfl ?_
        refine rj_imul (pc := 132) dX11_copy_132 ?_
        refine r_iload_n (pc := 133) dX11_copy_133 rfl ?_
        refine rj_iadd (pc := 134) dX11_copy_134 ?_
        refine r_iload (pc := 135) dX11_copy_135 rfl ?_
        refine rj_iadd (pc := 137) dX11_copy_137 ?_
        refine rj_iald (pc := 138) (j := (40 * r + i).toNat + (n.toNat - (e + 1))) dX11_copy_138 (by first | exact isM.g0 (by assumption) | exact isM.g3 (by assumption) | exact isM.g4 (by assumption) | exact isM.g8 (by assumption) | exact isM.g7 (by assumption) | exact isM.g6 (by assumption) | exact isM.g5 (by assumption) | exact isM.g1 (by assumption) | exact isM.g2 (by assumption)) (by first | assumption | exact b01_r | exact bz_r | omega | (constructor <;> omega) | exact hM _ | exact hPo _ | exact hTa _ | exact hRo _) (by first | assumption | exact b01_r | exact bz_r | omega | (constructor <;> omega) | exact hM _ | exact hPo _ | exact hTa _ | exact hRo _) (by first | assumption | exact b01_r | exact bz_r | omega | (constructor <;> omega) | exact hM _ | exact hPo _ | exact hTa _ | exact hRo _) (by omega) ?_
        have e1 : cpR rw (40 * r + i).toNat (40 * o + j).toNat (n.toNat - e) n.toNat ((40 * r + i).toNat + (n.toNat - (e + 1))) = rw ((40 * r + i).toNat + (n.toNat - (e + 1))) := cpR_n (by omega)
        rw [e1]
        first | refine rm_iast8 (pc := 139) (j := (40 * o + j).toNat + (n.toNat - (e + 1))) dX11_copy_139 (by assumption) (by first | assumption | exact b01_r | exact bz_r | omega | (constructor <;> omega) | exact hM _ | exact hPo _ | exact hTa _ | exact hRo _) (by first | assumption | exact b01_r | exact bz_r | omega | (constructor <;> omega) | exact hM _ | exact hPo _ | exact hTa _ | exact hRo _) (by first | assumption | exact b01_r | exact bz_r | omega | (constructor <;> omega) | exact hM _ | exact hPo _ | exact hTa _ | exact hRo _) (by omega) (fun h_139 hB_139 hS_139 => ?_)
        rw [show n.toNat - e = (n.toNat - (e + 1)) + 1 by omega, cpR_dn _ _ _ _ _ (by omega)] at hB_139
        refine rj_iinc (pc := 140) dX11_copy_140 (Nat.le_of_ble_eq_true rfl) rfl ?_
        dsimp only [lsSt, List.set, mLs, mEnt]
        refine r_goto (pc := 143) (tgt := 84) dX11_copy_143 (by decide) ?_
        rw [show ((e : Int) + 1) = ((e + 1 : Nat) : Int) by omega]
        exact (ih (e + 1) _ _ (by omega) hB_139).mono (fun v h' q => ⟨q.1, q.2.1, hS_139.trans q.2.2⟩)
      · exfalso; omega
set_option maxHeartbeats 4000000 in
set_option maxRecDepth 100000 in
theorem m_copy {G : mG} {l : Launch} (d : Nat) {h : mH} {x s : Nat} {f4 f6 f8 f9 f10 f11 f12 f13 f14 f16 f18 : Int} {m kp was pool tape pln pap rwd rw : Nat → Int}(hB : isM h x (mFs x f4 f6 f8 f9 f10 f11 f12 f13 f14 f16 f18 s) m kp was pool tape pln pap rwd rw) (hRo : ∀ q, InR (rwd q)) (h40 : ∀ q, rwd q ≤ 40) {r i o j n : Int} (hr : InR r) (hi : InR i) (ho : InR o) (hj : InR j) (hn : InR n) : RUNM G l (d + 2) mX11_copy [.ref x, .int (J r), .int (J i), .int (J o), .int (J j), .int (J n)] h (fun v h' => v = some (.int (J (copyV rwd r i o j n))) ∧ ((¬ copyDo rwd r i o j n ∧ h' = h) ∨ (copyDo rwd r i o j n ∧ isM h' x (mFs x f4 f6 f8 f9 f10 f11 f12 f13 f14 f16 f18 s) m kp was pool tape pln pap rwd (cpR rw (40 * r + i).toNat (40 * o + j).toNat 0 n.toNat) ∧ Same (mBlk x) h h'))) := by
  have hB0 := hB
  dsimp only [mFs] at hB
  refine RUNM.of (by decide +kernel) (Nat.le_of_ble_eq_true rfl) ?_
  refine r_iload_n (pc := 0) dX11_copy_0 rfl ?_
  refine r_callS1 (pc := 1) dX11_copy_1 qX11_isRow kX11_304 sX11_isRow (Nat.le_of_ble_eq_true rfl) ((m_isRow 0 hr).deeper (by omega)) (fun v_1 h_1 q_1 => ?_)
  obtain ⟨rfl, rfl⟩ := q_1
  refine rj_if_eq (pc := 4) (tgt := 14) dX11_copy_4 (by decide) (by first | assumption | exact b01_r | exact bz_r | omega | (constructor <;> omega) | exact hM _ | exact hPo _ | exact hTa _ | exact hRo _) (fun c_4 => ?_) (fun c_4 => ?_)
  · try simp only [b01_0, bz_0, Classical.not_not] at c_4
    refine rj_iconst (pc := 14) dX11_copy_14 ?_
    refine r_ireturn (pc := 15) .int dX11_copy_15 rfl (by first | rfl | assumption) ?_
    exact ⟨by unfold copyV; rw [if_neg (by omega)], Or.inl ⟨by unfold copyDo; omega, rfl⟩⟩
  · try simp only [b01_0, bz_0, Classical.not_not] at c_4
    refine r_iload_n (pc := 7) dX11_copy_7 rfl ?_
    refine r_callS1 (pc := 8) dX11_copy_8 qX11_isRow kX11_304 sX11_isRow (Nat.le_of_ble_eq_true rfl) ((m_isRow 0 ho).deeper (by omega)) (fun v_8 h_8 q_8 => ?_)
    obtain ⟨rfl, rfl⟩ := q_8
    refine rj_if_ne (pc := 11) (tgt := 16) dX11_copy_11 (by decide) (by first | assumption | exact b01_r | exact bz_r | omega | (constructor <;> omega) | exact hM _ | exact hPo _ | exact hTa _ | exact hRo _) (fun c_11 => ?_) (fun c_11 => ?_)
    · try simp only [b01_0, bz_0, Classical.not_not] at c_11
      have rr := hRo r.toNat
      have ro := hRo o.toNat
      have q1 := h40 r.toNat
      have q2 := h40 o.toNat
      refine r_aload_n (pc := 16) dX11_copy_16 rfl (by first | rfl | exact isRefV_rf _) ?_
      refine rm_getf (pc := 17) dX11_copy_17 fX11_36 (by assumption) rfl ?_
      refine r_iload_n (pc := 20) dX11_copy_20 rfl ?_
      refine rj_iald (pc := 21) (j := r.toNat) dX11_copy_21 (by first | exact isM.g0 (by assumption) | exact isM.g3 (by assumption) | exact isM.g4 (by assumption) | exact isM.g8 (by assumption) | exact isM.g7 (by assumption) | exact isM.g6 (by assumption) | exact isM.g5 (by assumption) | exact isM.g1 (by assumption) | exact isM.g2 (by assumption)) (by first | assumption | exact b01_r | exact bz_r | omega | (constructor <;> omega) | exact hM _ | exact hPo _ | exact hTa _ | exact hRo _) (by first | assumption | exact b01_r | exact bz_r | omega | (constructor <;> omega) | exact hM _ | exact hPo _ | exact hTa _ | exact hRo _) (by first | assumption | exact b01_r | exact bz_r | omega | (constructor <;> omega) | exact hM _ | exact hPo _ | exact hTa _ | exact hRo _) (by omega) ?_
      refine rj_if_lt (pc := 22) (tgt := 34) dX11_copy_22 (by decide) (by first | assumption | exact b01_r | exact bz_r | omega | (constructor <;> omega) | exact hM _ | exact hPo _ | exact hTa _ | exact hRo _) (fun c_22 => ?_) (fun c_22 => ?_)
      · refine rj_bipush (pc := 34) dX11_copy_34 (by decide +kernel) ?_
        refine r_ireturn (pc := 36) .int dX11_copy_36 rfl (by first | rfl | assumption) ?_
        exact ⟨by unfold copyV; rw [if_pos (by omega), if_pos (by omega)], Or.inl ⟨by unfold copyDo; omega, rfl⟩⟩
      · refine r_aload_n (pc := 25) dX11_copy_25 rfl (by first | rfl | exact isRefV_rf _) ?_
        refine rm_getf (pc := 26) dX11_copy_26 fX11_36 (by assumption) rfl ?_
        refine r_iload_n (pc := 29) dX11_copy_29 rfl ?_
        refine rj_iald (pc := 30) (j := o.toNat) dX11_copy_30 (by first | exact isM.g0 (by assumption) | exact isM.g3 (by assumption) | exact isM.g4 (by assumption) | exact isM.g8 (by assumption) | exact isM.g7 (by assumption) | exact isM.g6 (by assumption) | exact isM.g5 (by assumption) | exact isM.g1 (by assumption) | exact isM.g2 (by assumption)) (by first | assumption | exact b01_r | exact bz_r | omega | (constructor <;> omega) | exact hM _ | exact hPo _ | exact hTa _ | exact hRo _) (by first | assumption | exact b01_r | exact bz_r | omega | (constructor <;> omega) | exact hM _ | exact hPo _ | exact hTa _ | exact hRo _) (by first | assumption | exact b01_r | exact bz_r | omega | (constructor <;> omega) | exact hM _ | exact hPo _ | exact hTa _ | exact hRo _) (by omega) ?_
        refine rj_if_ge (pc := 31) (tgt := 37) dX11_copy_31 (by decide) (by first | assumption | exact b01_r | exact bz_r | omega | (constructor <;> omega) | exact hM _ | exact hPo _ | exact hTa _ | exact hRo _) (fun c_31 => ?_) (fun c_31 => ?_)
        · refine r_iload (pc := 37) dX11_copy_37 rfl ?_
          refine rj_if_lt (pc := 39) (tgt := 78) dX11_copy_39 (by decide) (by first | assumption | exact b01_r | exact bz_r | omega | (constructor <;> omega) | exact hM _ | exact hPo _ | exact hTa _ | exact hRo _) (fun c_39 => ?_) (fun c_39 => ?_)
          · refine rj_bipush (pc := 78) dX11_copy_78 (by decide +kernel) ?_
            refine r_ireturn (pc := 80) .int dX11_copy_80 rfl (by first | rfl | assumption) ?_
            exact ⟨by unfold copyV; rw [if_pos (by omega), if_neg (by omega), if_pos (by omega)], Or.inl ⟨by unfold copyDo; omega, rfl⟩⟩
          · refine r_iload_n (pc := 42) dX11_copy_42 rfl ?_
            refine rj_if_lt (pc := 43) (tgt := 78) dX11_copy_43 (by decide) (by first | assumption | exact b01_r | exact bz_r | omega | (constructor <;> omega) | exact hM _ | exact hPo _ | exact hTa _ | exact hRo _) (fun c_43 => ?_) (fun c_43 => ?_)
            · refine rj_bipush (pc := 78) dX11_copy_78 (by decide +kernel) ?_
              refine r_ireturn (pc := 80) .int dX11_copy_80 rfl (by first | rfl | assumption) ?_
              exact ⟨by unfold copyV; rw [if_pos (by omega), if_neg (by omega), if_pos (by omega)], Or.inl ⟨by unfold copyDo; omega, rfl⟩⟩
            · refine r_iload (pc := 46) dX11_copy_46 rfl ?_
              refine rj_if_lt (pc := 48) (tgt := 78) dX11_copy_48 (by decide) (by first | assumption | exact b01_r | exact bz_r | omega | (constructor <;> omega) | exact hM _ | exact hPo _ | exact hTa _ | exact hRo _) (fun c_48 => ?_) (fun c_48 => ?_)
              · refine rj_bipush (pc := 78) dX11_copy_78 (by decide +kernel) ?_
                refine r_ireturn (pc := 80) .int dX11_copy_80 rfl (by first | rfl | assumption) ?_
                exact ⟨by unfold copyV; rw [if_pos (by omega), if_neg (by omega), if_pos (by omega)], Or.inl ⟨by unfold copyDo; omega, rfl⟩⟩
              · refine r_iload (pc := 51) dX11_copy_51 rfl ?_
                refine r_aload_n (pc := 53) dX11_copy_53 rfl (by first | rfl | exact isRefV_rf _) ?_
                refine rm_getf (pc := 54) dX11_copy_54 fX11_36 (by assumption) rfl ?_
                refine r_iload_n (pc := 57) dX11_copy_57 rfl ?_
                refine rj_iald (pc := 58) (j := r.toNat) dX11_copy_58 (by first | exact isM.g0 (by assumption) | exact isM.g3 (by assumption) | exact isM.g4 (by assumption) | exact isM.g8 (by assumption) | exact isM.g7 (by assumption) | exact isM.g6 (by assumption) | exact isM.g5 (by assumption) | exact isM.g1 (by assumption) | exact isM.g2 (by assumption)) (by first | assumption | exact b01_r | exact bz_r | omega | (constructor <;> omega) | exact hM _ | exact hPo _ | exact hTa _ | exact hRo _) (by first | assumption | exact b01_r | exact bz_r | omega | (constructor <;> omega) | exact hM _ | exact hPo _ | exact hTa _ | exact hRo _) (by first | assumption | exact b01_r | exact bz_r | omega | (constructor <;> omega) | exact hM _ | exact hPo _ | exact hTa _ | exact hRo _) (by omega) ?_
                refine r_iload_n (pc := 59) dX11_copy_59 rfl ?_
                refine rj_isub (pc := 60) dX11_copy_60 ?_
                refine rj_icmp_gt (pc := 61) (tgt := 78) dX11_copy_61 (by decide) (by first | assumption | exact b01_r | exact bz_r | omega | (constructor <;> omega) | exact hM _ | exact hPo _ | exact hTa _ | exact hRo _) (by first | assumption | exact b01_r | exact bz_r | omega | (constructor <;> omega) | exact hM _ | exact hPo _ | exact hTa _ | exact hRo _) (fun c_61 => ?_) (fun c_61 => ?_)
                · refine rj_bipush (pc := 78) dX11_copy_78 (by decide +kernel) ?_
                  refine r_ireturn (pc := 80) .int dX11_copy_80 rfl (by first | rfl | assumption) ?_
                  exact ⟨by unfold copyV; rw [if_pos (by omega), if_neg (by omega), if_pos (by omega)], Or.inl ⟨by unfold copyDo; omega, rfl⟩⟩
                · refine r_iload (pc := 64) dX11_copy_64 rfl ?_
                  refine r_aload_n (pc := 66) dX11_copy_66 rfl (by first | rfl | exact isRefV_rf _) ?_
                  refine rm_getf (pc := 67) dX11_copy_67 fX11_36 (by assumption) rfl ?_
                  refine r_iload_n (pc := 70) dX11_copy_70 rfl ?_
                  refine rj_iald (pc := 71) (j := o.toNat) dX11_copy_71 (by first | exact isM.g0 (by assumption) | exact isM.g3 (by assumption) | exact isM.g4 (by assumption) | exact isM.g8 (by assumption) | exact isM.g7 (by assumption) | exact isM.g6 (by assumption) | exact isM.g5 (by assumption) | exact isM.g1 (by assumption) | exact isM.g2 (by assumption)) (by first | assumption | exact b01_r | exact bz_r | omega | (constructor <;> omega) | exact hM _ | exact hPo _ | exact hTa _ | exact hRo _) (by first | assumption | exact b01_r | exact bz_r | omega | (constructor <;> omega) | exact hM _ | exact hPo _ | exact hTa _ | exact hRo _) (by first | assumption | exact b01_r | exact bz_r | omega | (constructor <;> omega) | exact hM _ | exact hPo _ | exact hTa _ | exact hRo _) (by omega) ?_
                  refine r_iload (pc := 72) dX11_copy_72 rfl ?_
                  refine rj_isub (pc := 74) dX11_copy_74 ?_
                  refine rj_icmp_le (pc := 75) (tgt := 81) dX11_copy_75 (by decide) (by first | assumption | exact b01_r | exact bz_r | omega | (constructor <;> omega) | exact hM _ | exact hPo _ | exact hTa _ | exact hRo _) (by first | assumption | exact b01_r | exact bz_r | omega | (constructor <;> omega) | exact hM _ | exact hPo _ | exact hTa _ | exact hRo _) (fun c_75 => ?_) (fun c_75 => ?_)
                  · refine rj_iconst (pc := 81) dX11_copy_81 ?_
                    refine r_istore (pc := 82) dX11_copy_82 (Nat.le_of_ble_eq_true rfl) ?_
                    dsimp only [lsSt, List.set, mLs, mEnt]
                    have hc : copyDo rwd r i o j n := by unfold copyDo; omega
                    have ev : copyV rwd r i o j n = n := by unfold copyV; rw [if_pos (by omega), if_neg (by omega), if_neg (by omega)]
                    rw [ev]
                    by_cases hij : j < i
                    · have y := L_copyUp (G := G) (l := l) (d + 2) hc h40 hij n.toNat 0 _ none (by omega) (by rw [cpR_0]; exact hB0)
                      exact y.mono (fun v h' q => ⟨q.1, Or.inr ⟨hc, q.2⟩⟩)
                    · have y := L_copyDn (G := G) (l := l) (d + 2) hc h40 (by omega) n.toNat 0 _ none (by omega) (by rw [Nat.sub_zero, cpR_0]; exact hB0)
                      exact y.mono (fun v h' q => ⟨q.1, Or.inr ⟨hc, q.2⟩⟩)
                  · refine rj_bipush (pc := 78) dX11_copy_78 (by decide +kernel) ?_
                    refine r_ireturn (pc := 80) .int dX11_copy_80 rfl (by first | rfl | assumption) ?_
                    exact ⟨by unfold copyV; rw [if_pos (by omega), if_neg (by omega), if_pos (by omega)], Or.inl ⟨by unfold copyDo; omega, rfl⟩⟩
        · refine rj_bipush (pc := 34) dX11_copy_34 (by decide +kernel) ?_
          refine r_ireturn (pc := 36) .int dX11_copy_36 rfl (by first | rfl | assumption) ?_
          exact ⟨by unfold copyV; rw [if_pos (by omega), if_pos (by omega)], Or.inl ⟨by unfold copyDo; omega, rfl⟩⟩
    · try simp only [b01_0, bz_0, Classical.not_not] at c_11
      refine rj_iconst (pc := 14) dX11_copy_14 ?_
      refine r_ireturn (pc := 15) .int dX11_copy_15 rfl (by first | rfl | assumption) ?_
      exact ⟨by unfold copyV; rw [if_neg (by omega)], Or.inl ⟨by unfold copyDo; omega, rfl⟩⟩
def layR (rw m : Nat → Int) (b k : Nat) : Nat → Int := fun q => if b ≤ q ∧ q < b + k then m (1518 + (q - b)) else rw q
theorem layR_0 (rw m : Nat → Int) (b : Nat) : layR rw m b 0 = rw := by
  funext q; unfold layR; rw [if_neg (by omega)]
theorem layR_s (rw m : Nat → Int) (b k : Nat) : updI (layR rw m b k) (b + k) (m (1518 + k)) = layR rw m b (k + 1) := by
  funext q
  unfold updI layR
  by_cases h : q = b + k
  · subst h; rw [if_pos rfl, if_pos (by omega)]; congr 1; omega
  · rw [if_neg h]
    by_cases h2 : b ≤ q ∧ q < b + k
    · rw [if_pos h2, if_pos (by omega)]
    · rw [if_neg h2, if_neg (by omega)]
/-- how many numbers of THE LOG find a place -/
def layN (L rd i : Int) : Nat := if i < 0 then 0 else (if L ≤ rd - i then L.toNat else (rd - i).toNat)
def layV (m rwd : Nat → Int) (r i : Int) : Int := if wrongV rwd r = 0 then (if m 2 ≤ 0 ∨ (0 ≤ i ∧ m 2 ≤ rwd r.toNat - i) then m 2 else -13) else wrongV rwd r
set_option maxHeartbeats 4000000 in
set_option maxRecDepth 100000 in
theorem L_lay {G : mG} {l : Launch} (d : Nat) {x s : Nat} {f4 f6 f8 f9 f10 f11 f12 f13 f14 f16 f18 : Int} {m kp was pool tape pln pap rwd rw : Nat → Int} (hok : mOk m) (hRo : ∀ q, InR (rwd q)) (h40 : ∀ q, rwd q ≤ 40) {r i : Int} (hr : 0 ≤ r ∧ r ≤ 3) (hi : InR i) (hw : wrongV rwd r = 0) (hw0 : 0 ≤ rwd r.toNat) : ∀ (n k : Nat) (h : mH), (k : Int) + n = m 2 → (0 < k → 0 ≤ i ∧ (k : Int) ≤ rwd r.toNat - i) → isM h x (mFs x f4 f6 f8 f9 f10 f11 f12 f13 f14 f16 f18 s) m kp was pool tape pln pap rwd (layR rw m (40 * r + i).toNat k) → RUN G l d mX11_lay 15 [some (.ref x), some (.int (J r)), some (.int (J i)), some (.int (J 0)), some (.int (J (k : Int)))] [] h (fun v h' => v = some (.int (J (layV m rwd r i))) ∧ isM h' x (mFs x f4 f6 f8 f9 f10 f11 f12 f13 f14 f16 f18 s) m kp was pool tape pln pap rwd (layR rw m (40 * r + i).toNat (layN (m 2) (rwd r.toNat) i)) ∧ Same (mBlk x) h h') := by
  obtain ⟨hM, k0, k1, k2, k3, k4, k5, k7⟩ := id hok
  have q1 := h40 r.toNat
  intro n
  induction n with
  | zero =>
    intro k h hk hpos hB
    have hB0 := hB
    dsimp only [mFs] at hB
    refine r_iload (pc := 15) dX11_lay_15 rfl ?_
    refine r_aload_n (pc := 17) dX11_lay_17 rfl (by first | rfl | exact isRefV_rf _) ?_
    refine rm_getf (pc := 18) dX11_lay_18 fX11_11 (by assumption) rfl ?_
    refine rj_iconst (pc := 21) dX11_lay_21 ?_
    refine rj_iald (pc := 22) (j := 2) dX11_lay_22 (by first | exact isM.g0 (by assumption) | exact isM.g3 (by assumption) | exact isM.g4 (by assumption) | exact isM.g8 (by assumption) | exact isM.g7 (by assumption) | exact isM.g6 (by assumption) | exact isM.g5 (by assumption) | exact isM.g1 (by assumption) | exact isM.g2 (by assumption)) (by first | assumption | exact b01_r | exact bz_r | omega | (constructor <;> omega) | exact hM _ | exact hPo _ | exact hTa _ | exact hRo _) (by first | assumption | exact b01_r | exact bz_r | omega | (constructor <;> omega) | exact hM _ | exact hPo _ | exact hTa _ | exact hRo _) (by first | assumption | exact b01_r | exact bz_r | omega | (constructor <;> omega) | exact hM _ | exact hPo _ | exact hTa _ | exact hRo _) (by omega) ?_
    refine rj_icmp_ge (pc := 23) (tgt := 77) dX11_lay_23 (by decide) (by first | assumption | exact b01_r | exact bz_r | omega | (constructor <;> omega) | exact hM _ | exact hPo _ | exact hTa _ | exact hRo _) (by first | assumption | exact b01_r | exact bz_r | omega | (constructor <;> omega) | exact hM _ | exact hPo _ | exact hTa _ | exact hRo _) (fun c_23 => ?_) (fun c_23 => ?_)
    · refine r_aload_n (pc := 77) dX11_lay_77 rfl (by first | rfl | exact isRefV_rf _) ?_
      refine rm_getf (pc := 78) dX11_lay_78 fX11_11 (by assumption) rfl ?_
      refine rj_iconst (pc := 81) dX11_lay_81 ?_
      refine rj_iald (pc := 82) (j := 2) dX11_lay_82 (by first | exact isM.g0 (by assumption) | exact isM.g3 (by assumption) | exact isM.g4 (by assumption) | exact isM.g8 (by assumption) | exact isM.g7 (by assumption) | exact isM.g6 (by assumption) | exact isM.g5 (by assumption) | exact isM.g1 (by assumption) | exact isM.g2 (by assumption)) (by first | assumption | exact b01_r | exact bz_r | omega | (constructor <;> omega) | exact hM _ | exact hPo _ | exact hTa _ | exact hRo _) (by first | assumption | exact b01_r | exact bz_r | omega | (constructor <;> omega) | exact hM _ | exact hPo _ | exact hTa _ | exact hRo _) (by first | assumption | exact b01_r | exact bz_r | omega | (constructor <;> omega) | exact hM _ | exact hPo _ | exact hTa _ | exact hRo _) (by omega) ?_
      refine r_ireturn (pc := 83) .int dX11_lay_83 rfl (by first | rfl | assumption) ?_
      rw [show layV m rwd r i = m 2 by unfold layV; rw [if_pos hw, if_pos (by omega)]]
      rw [show layN (m 2) (rwd r.toNat) i = k by unfold layN; split <;> (try split) <;> omega]
      exact ⟨rfl, hB0, Same.refl⟩
    · exfalso; omega
  | succ n ih =>
    intro k h hk hpos hB
    have hB0 := hB
    dsimp only [mFs] at hB
    refine r_iload (pc := 15) dX11_lay_15 rfl ?_
    refine r_aload_n (pc := 17) dX11_lay_17 rfl (by first | rfl | exact isRefV_rf _) ?_
    refine rm_getf (pc := 18) dX11_lay_18 fX11_11 (by assumption) rfl ?_
    refine rj_iconst (pc := 21) dX11_lay_21 ?_
    refine rj_iald (pc := 22) (j := 2) dX11_lay_22 (by first | exact isM.g0 (by assumption) | exact isM.g3 (by assumption) | exact isM.g4 (by assumption) | exact isM.g8 (by assumption) | exact isM.g7 (by assumption) | exact isM.g6 (by assumption) | exact isM.g5 (by assumption) | exact isM.g1 (by assumption) | exact isM.g2 (by assumption)) (by first | assumption | exact b01_r | exact bz_r | omega | (constructor <;> omega) | exact hM _ | exact hPo _ | exact hTa _ | exact hRo _) (by first | assumption | exact b01_r | exact bz_r | omega | (constructor <;> omega) | exact hM _ | exact hPo _ | exact hTa _ | exact hRo _) (by first | assumption | exact b01_r | exact bz_r | omega | (constructor <;> omega) | exact hM _ | exact hPo _ | exact hTa _ | exact hRo _) (by omega) ?_
    refine rj_icmp_ge (pc := 23) (tgt := 77) dX11_lay_23 (by decide) (by first | assumption | exact b01_r | exact bz_r | omega | (constructor <;> omega) | exact hM _ | exact hPo _ | exact hTa _ | exact hRo _) (by first | assumption | exact b01_r | exact bz_r | omega | (constructor <;> omega) | exact hM _ | exact hPo _ | exact hTa _ | exact hRo _) (fun c_23 => ?_) (fun c_23 => ?_)
    · exfalso; omega
    · refine r_iload_n (pc := 26) dX11_lay_26 rfl ?_
      refine rj_if_lt (pc := 27) (tgt := 43) dX11_lay_27 (by decide) (by first | assumption | exact b01_r | exact bz_r | omega | (constructor <;> omega) | exact hM _ | exact hPo _ | exact hTa _ | exact hRo _) (fun c_27 => ?_) (fun c_27 => ?_)
      · refine rj_bipush (pc := 43) dX11_lay_43 (by decide +kernel) ?_
        refine r_ireturn (pc := 45) .int dX11_lay_45 rfl (by first | rfl | assumption) ?_
        rw [show layV m rwd r i = -13 by unfold layV; rw [if_pos hw, if_neg (by omega)]]
        rw [show layN (m 2) (rwd r.toNat) i = k by unfold layN; split <;> (try split) <;> omega]
        exact ⟨rfl, hB0, Same.refl⟩
      · refine r_iload (pc := 30) dX11_lay_30 rfl ?_
        refine r_aload_n (pc := 32) dX11_lay_32 rfl (by first | rfl | exact isRefV_rf _) ?_
        refine rm_getf (pc := 33) dX11_lay_33 fX11_36 (by assumption) rfl ?_
        refine r_iload_n (pc := 36) dX11_lay_36 rfl ?_
        refine rj_iald (pc := 37) (j := r.toNat) dX11_lay_37 (by first | exact isM.g0 (by assumption) | exact isM.g3 (by assumption) | exact isM.g4 (by assumption) | exact isM.g8 (by assumption) | exact isM.g7 (by assumption) | exact isM.g6 (by assumption) | exact isM.g5 (by assumption) | exact isM.g1 (by assumption) | exact isM.g2 (by assumption)) (by first | assumption | exact b01_r | exact bz_r | omega | (constructor <;> omega) | exact hM _ | exact hPo _ | exact hTa _ | exact hRo _) (by first | assumption | exact b01_r | exact bz_r | omega | (constructor <;> omega) | exact hM _ | exact hPo _ | exact hTa _ | exact hRo _) (by first | assumption | exact b01_r | exact bz_r | omega | (constructor <;> omega) | exact hM _ | exact hPo _ | exact hTa _ | exact hRo _) (by omega) ?_
        refine r_iload_n (pc := 38) dX11_lay_38 rfl ?_
        refine rj_isub (pc := 39) dX11_lay_39 ?_
        refine rj_icmp_lt (pc := 40) (tgt := 46) dX11_lay_40 (by decide) (by first | assumption | exact b01_r | exact bz_r | omega | (constructor <;> omega) | exact hM _ | exact hPo _ | exact hTa _ | exact hRo _) (by first | assumption | exact b01_r | exact bz_r | omega | (constructor <;> omega) | exact hM _ | exact hPo _ | exact hTa _ | exact hRo _) (fun c_40 => ?_) (fun c_40 => ?_)
        · refine r_aload_n (pc := 46) dX11_lay_46 rfl (by first | rfl | exact isRefV_rf _) ?_
          refine rm_getf (pc := 47) dX11_lay_47 fX11_39 (by assumption) rfl ?_
          refine rj_bipush (pc := 50) dX11_lay_50 (by decide +kernel) ?_
          refine r_iload_n (pc := 52) dX11_lay_52 rfl ?_
          refine rj_imul (pc := 53) dX11_lay_53 ?_
          refine r_iload_n (pc := 54) dX11_lay_54 rfl ?_
          refine rj_iadd (pc := 55) dX11_lay_55 ?_
          refine r_iload (pc := 56) dX11_lay_56 rfl ?_
          refine rj_iadd (pc := 58) dX11_lay_58 ?_
          refine r_aload_n (pc := 59) dX11_lay_59 rfl (by first | rfl | exact isRefV_rf _) ?_
          refine rm_getf (pc := 60) dX11_lay_60 fX11_11 (by assumption) rfl ?_
          refine rj_sipush (pc := 63) dX11_lay_63 (by decide +kernel) ?_
          refine r_iload (pc := 66) dX11_lay_66 rfl ?_
          refine rj_iadd (pc := 68) dX11_lay_68 ?_
          refine rj_iald (pc := 69) (j := 1518 + k) dX11_lay_69 (by first | exact isM.g0 (by assumption) | exact isM.g3 (by assumption) | exact isM.g4 (by assumption) | exact isM.g8 (by assumption) | exact isM.g7 (by assumption) | exact isM.g6 (by assumption) | exact isM.g5 (by assumption) | exact isM.g1 (by assumption) | exact isM.g2 (by assumption)) (by first | assumption | exact b01_r | exact bz_r | omega | (constructor <;> omega) | exact hM _ | exact hPo _ | exact hTa _ | exact hRo _) (by first | assumption | exact b01_r | exact bz_r | omega | (constructor <;> omega) | exact hM _ | exact hPo _ | exact hTa _ | exact hRo _) (by first | assumption | exact b01_r | exact bz_r | omega | (constructor <;> omega) | exact hM _ | exact hPo _ | exact hTa _ | exact hRo _) (by omega) ?_
          first | refine rm_iast8 (pc := 70) (j := (40 * r + i).toNat + k) dX11_lay_70 (by assumption) (by first | assumption | exact b01_r | exact bz_r | omega | (constructor <;> omega) | exact hM _ | exact hPo _ | exact hTa _ | exact hRo _) (by first | assumption | exact b01_r | exact bz_r | omega | (constructor <;> omega) | exact hM _ | exact hPo _ | exact hTa _ | exact hRo _) (by first | assumption | exact b01_r | exact bz_r | omega | (constructor <;> omega) | exact hM _ | exact hPo _ | exact hTa _ | exact hRo _) (by omega) (fun h_70 hB_70 hS_70 => ?_)
          rw [layR_s] at hB_70
          refine rj_iinc (pc := 71) dX11_lay_71 (Nat.le_of_ble_eq_true rfl) rfl ?_
          dsimp only [lsSt, List.set, mLs, mEnt]
          refine r_goto (pc := 74) (tgt := 15) dX11_lay_74 (by decide) ?_
          have y := ih (k + 1) _ (by omega) (fun _ => by omega) hB_70
          rw [show ((k + 1 : Nat) : Int) = (k : Int) + 1 by omega] at y
          exact y.mono (fun v h' q => ⟨q.1, q.2.1, hS_70.trans q.2.2⟩)
        · refine rj_bipush (pc := 43) dX11_lay_43 (by decide +kernel) ?_
          refine r_ireturn (pc := 45) .int dX11_lay_45 rfl (by first | rfl | assumption) ?_
          rw [show layV m rwd r i = -13 by unfold layV; rw [if_pos hw, if_neg (by omega)]]
          rw [show layN (m 2) (rwd r.toNat) i = k by unfold layN; split <;> (try split) <;> omega]
          exact ⟨rfl, hB0, Same.refl⟩
set_option maxHeartbeats 4000000 in
set_option maxRecDepth 100000 in
theorem m_lay {G : mG} {l : Launch} (d : Nat) {h : mH} {x s : Nat} {f4 f6 f8 f9 f10 f11 f12 f13 f14 f16 f18 : Int} {m kp was pool tape pln pap rwd rw : Nat → Int}(hB : isM h x (mFs x f4 f6 f8 f9 f10 f11 f12 f13 f14 f16 f18 s) m kp was pool tape pln pap rwd rw) (hok : mOk m) (hRo : ∀ q, InR (rwd q)) (h40 : ∀ q, rwd q ≤ 40) {r i : Int} (hr : InR r) (hi : InR i) : RUNM G l (d + 3) mX11_lay [.ref x, .int (J r), .int (J i)] h (fun v h' => v = some (.int (J (layV m rwd r i))) ∧ ((¬ wrongV rwd r = 0 ∧ h' = h) ∨ (wrongV rwd r = 0 ∧ isM h' x (mFs x f4 f6 f8 f9 f10 f11 f12 f13 f14 f16 f18 s) m kp was pool tape pln pap rwd (layR rw m (40 * r + i).toNat (layN (m 2) (rwd r.toNat) i)) ∧ Same (mBlk x) h h'))) := by
  have hB0 := hB
  have k2 := hok.2.2.2.1
  have wv : wrongV rwd r = 0 → (0 ≤ r ∧ r ≤ 3) ∧ 0 ≤ rwd r.toNat := by unfold wrongV; intro g; split at g <;> (try split at g) <;> first | (exfalso; omega) | omega
  have rwr : InR (wrongV rwd r) := by unfold wrongV; split <;> (try split) <;> decide
  dsimp only [mFs] at hB
  refine RUNM.of (by decide +kernel) (Nat.le_of_ble_eq_true rfl) ?_
  refine r_aload_n (pc := 0) dX11_lay_0 rfl (by first | rfl | exact isRefV_rf _) ?_
  refine r_iload_n (pc := 1) dX11_lay_1 rfl ?_
  refine r_callV1 (pc := 2) dX11_lay_2 qX11_wrong kX11_307 vX11_wrong (by exact isM.gx (by assumption)) rfl rfl (Nat.le_of_ble_eq_true rfl) (m_wrong d hB0 hRo hr) (fun v_2 h_2 q_2 => ?_)
  obtain ⟨rfl, rfl⟩ := q_2
  refine r_istore_n (pc := 5) dX11_lay_5 (Nat.le_of_ble_eq_true rfl) ?_
  dsimp only [lsSt, List.set, mLs, mEnt]
  refine r_iload_n (pc := 6) dX11_lay_6 rfl ?_
  refine rj_if_eq (pc := 7) (tgt := 12) dX11_lay_7 (by decide) (by first | assumption | exact b01_r | exact bz_r | omega | (constructor <;> omega) | exact hM _ | exact hPo _ | exact hTa _ | exact hRo _) (fun c_7 => ?_) (fun c_7 => ?_)
  · try simp only [b01_0, bz_0, Classical.not_not] at c_7
    refine rj_iconst (pc := 12) dX11_lay_12 ?_
    refine r_istore (pc := 13) dX11_lay_13 (Nat.le_of_ble_eq_true rfl) ?_
    dsimp only [lsSt, List.set, mLs, mEnt]
    rw [c_7]
    have y := L_lay (G := G) (l := l) (d + 3) hok hRo h40 (wv c_7).1 hi c_7 (wv c_7).2 (m 2).toNat 0 _ (by omega) (fun g => absurd g (by omega)) (by rw [layR_0]; exact hB0)
    exact y.mono (fun v h' q => ⟨q.1, Or.inr ⟨rfl, q.2⟩⟩)
  · try simp only [b01_0, bz_0, Classical.not_not] at c_7
    refine r_iload_n (pc := 10) dX11_lay_10 rfl ?_
    refine r_ireturn (pc := 11) .int dX11_lay_11 rfl (by first | rfl | assumption) ?_
    exact ⟨by unfold layV; rw [if_neg c_7], Or.inl ⟨c_7, rfl⟩⟩
set_option maxHeartbeats 4000000 in
set_option maxRecDepth 100000 in
theorem L_judge {G : mG} {l : Launch} (d : Nat) {h : mH} {x s : Nat} {f4 f6 f8 f9 f10 f11 f12 f13 f14 f16 f18 : Int} {m kp was pool tape pln pap rwd rw : Nat → Int}(hB : isM h x (mFs x f4 f6 f8 f9 f10 f11 f12 f13 f14 f16 f18 s) m kp was pool tape pln pap rwd rw) (hok : mOk m) (hRo : ∀ q, InR (rwd q)) (hRw : ∀ q, InR (rw q)) (h40 : ∀ q, rwd q ≤ 40) {r i : Int} (hr : 0 ≤ r ∧ r ≤ 3) (hi : InR i) (hw0 : 0 ≤ rwd r.toNat) : ∀ (n k : Nat), (k : Int) + n = m 2 → RUN G l d mX11_judge 15 [some (.ref x), some (.int (J r)), some (.int (J i)), some (.int (J 0)), some (.int (J (k : Int)))] [] h (fun v h' => (∃ a, InR a ∧ v = some (.int (J a))) ∧ h' = h) := by
  obtain ⟨hM, k0, k1, k2, k3, k4, k5, k7⟩ := id hok
  have q1 := h40 r.toNat
  intro n
  induction n with
  | zero =>
    intro k hk
    have hB0 := hB
    dsimp only [mFs] at hB
    refine r_iload (pc := 15) dX11_judge_15 rfl ?_
    refine r_aload_n (pc := 17) dX11_judge_17 rfl (by first | rfl | exact isRefV_rf _) ?_
    refine rm_getf (pc := 18) dX11_judge_18 fX11_11 (by assumption) rfl ?_
    refine rj_iconst (pc := 21) dX11_judge_21 ?_
    refine rj_iald (pc := 22) (j := 2) dX11_judge_22 (by first | exact isM.g0 (by assumption) | exact isM.g3 (by assumption) | exact isM.g4 (by assumption) | exact isM.g8 (by assumption) | exact isM.g7 (by assumption) | exact isM.g6 (by assumption) | exact isM.g5 (by assumption) | exact isM.g1 (by assumption) | exact isM.g2 (by assumption)) (by first | assumption | exact b01_r | exact bz_r | omega | (constructor <;> omega) | exact hM _ | exact hPo _ | exact hTa _ | exact hRo _) (by first | assumption | exact b01_r | exact bz_r | omega | (constructor <;> omega) | exact hM _ | exact hPo _ | exact hTa _ | exact hRo _) (by first | assumption | exact b01_r | exact bz_r | omega | (constructor <;> omega) | exact hM _ | exact hPo _ | exact hTa _ | exact hRo _) (by omega) ?_
    refine rj_icmp_ge (pc := 23) (tgt := 87) dX11_judge_23 (by decide) (by first | assumption | exact b01_r | exact bz_r | omega | (constructor <;> omega) | exact hM _ | exact hPo _ | exact hTa _ | exact hRo _) (by first | assumption | exact b01_r | exact bz_r | omega | (constructor <;> omega) | exact hM _ | exact hPo _ | exact hTa _ | exact hRo _) (fun c_23 => ?_) (fun c_23 => ?_)
    · refine rj_bipush (pc := 87) dX11_judge_87 (by decide +kernel) ?_
      refine r_ireturn (pc := 89) .int dX11_judge_89 rfl (by first | rfl | assumption) ?_
      exact ⟨⟨_, by decide, rfl⟩, rfl⟩
    · exfalso; omega
  | succ n ih =>
    intro k hk
    have hB0 := hB
    dsimp only [mFs] at hB
    refine r_iload (pc := 15) dX11_judge_15 rfl ?_
    refine r_aload_n (pc := 17) dX11_judge_17 rfl (by first | rfl | exact isRefV_rf _) ?_
    refine rm_getf (pc := 18) dX11_judge_18 fX11_11 (by assumption) rfl ?_
    refine rj_iconst (pc := 21) dX11_judge_21 ?_
    refine rj_iald (pc := 22) (j := 2) dX11_judge_22 (by first | exact isM.g0 (by assumption) | exact isM.g3 (by assumption) | exact isM.g4 (by assumption) | exact isM.g8 (by assumption) | exact isM.g7 (by assumption) | exact isM.g6 (by assumption) | exact isM.g5 (by assumption) | exact isM.g1 (by assumption) | exact isM.g2 (by assumption)) (by first | assumption | exact b01_r | exact bz_r | omega | (constructor <;> omega) | exact hM _ | exact hPo _ | exact hTa _ | exact hRo _) (by first | assumption | exact b01_r | exact bz_r | omega | (constructor <;> omega) | exact hM _ | exact hPo _ | exact hTa _ | exact hRo _) (by first | assumption | exact b01_r | exact bz_r | omega | (constructor <;> omega) | exact hM _ | exact hPo _ | exact hTa _ | exact hRo _) (by omega) ?_
    refine rj_icmp_ge (pc := 23) (tgt := 87) dX11_judge_23 (by decide) (by first | assumption | exact b01_r | exact bz_r | omega | (constructor <;> omega) | exact hM _ | exact hPo _ | exact hTa _ | exact hRo _) (by first | assumption | exact b01_r | exact bz_r | omega | (constructor <;> omega) | exact hM _ | exact hPo _ | exact hTa _ | exact hRo _) (fun c_23 => ?_) (fun c_23 => ?_)
    · exfalso; omega
    · refine r_iload_n (pc := 26) dX11_judge_26 rfl ?_
      refine rj_if_lt (pc := 27) (tgt := 43) dX11_judge_27 (by decide) (by first | assumption | exact b01_r | exact bz_r | omega | (constructor <;> omega) | exact hM _ | exact hPo _ | exact hTa _ | exact hRo _) (fun c_27 => ?_) (fun c_27 => ?_)
      · refine rj_sipush (pc := 43) dX11_judge_43 (by decide +kernel) ?_
        refine r_iload (pc := 46) dX11_judge_46 rfl ?_
        refine rj_iadd (pc := 48) dX11_judge_48 ?_
        refine r_ireturn (pc := 49) .int dX11_judge_49 rfl (by first | rfl | assumption) ?_
        exact ⟨⟨_, ⟨by omega, by omega⟩, rfl⟩, rfl⟩
      · refine r_iload (pc := 30) dX11_judge_30 rfl ?_
        refine r_aload_n (pc := 32) dX11_judge_32 rfl (by first | rfl | exact isRefV_rf _) ?_
        refine rm_getf (pc := 33) dX11_judge_33 fX11_36 (by assumption) rfl ?_
        refine r_iload_n (pc := 36) dX11_judge_36 rfl ?_
        refine rj_iald (pc := 37) (j := r.toNat) dX11_judge_37 (by first | exact isM.g0 (by assumption) | exact isM.g3 (by assumption) | exact isM.g4 (by assumption) | exact isM.g8 (by assumption) | exact isM.g7 (by assumption) | exact isM.g6 (by assumption) | exact isM.g5 (by assumption) | exact isM.g1 (by assumption) | exact isM.g2 (by assumption)) (by first | assumption | exact b01_r | exact bz_r | omega | (constructor <;> omega) | exact hM _ | exact hPo _ | exact hTa _ | exact hRo _) (by first | assumption | exact b01_r | exact bz_r | omega | (constructor <;> omega) | exact hM _ | exact hPo _ | exact hTa _ | exact hRo _) (by first | assumption | exact b01_r | exact bz_r | omega | (constructor <;> omega) | exact hM _ | exact hPo _ | exact hTa _ | exact hRo _) (by omega) ?_
        refine r_iload_n (pc := 38) dX11_judge_38 rfl ?_
        refine rj_isub (pc := 39) dX11_judge_39 ?_
        refine rj_icmp_lt (pc := 40) (tgt := 50) dX11_judge_40 (by decide) (by first | assumption | exact b01_r | exact bz_r | omega | (constructor <;> omega) | exact hM _ | exact hPo _ | exact hTa _ | exact hRo _) (by first | assumption | exact b01_r | exact bz_r | omega | (constructor <;> omega) | exact hM _ | exact hPo _ | exact hTa _ | exact hRo _) (fun c_40 => ?_) (fun c_40 => ?_)
        · refine r_aload_n (pc := 50) dX11_judge_50 rfl (by first | rfl | exact isRefV_rf _) ?_
          refine rm_getf (pc := 51) dX11_judge_51 fX11_39 (by assumption) rfl ?_
          refine rj_bipush (pc := 54) dX11_judge_54 (by decide +kernel) ?_
          refine r_iload_n (pc := 56) dX11_judge_56 rfl ?_
          refine rj_imul (pc := 57) dX11_judge_57 ?_
          refine r_iload_n (pc := 58) dX11_judge_58 rfl ?_
          refine rj_iadd (pc := 59) dX11_judge_59 ?_
          refine r_iload (pc := 60) dX11_judge_60 rfl ?_
          refine rj_iadd (pc := 62) dX11_judge_62 ?_
          have ra := hRw ((40 * r + i).toNat + k)
          have rb := hM (1518 + k)
          refine rj_iald (pc := 63) (j := (40 * r + i).toNat + k) dX11_judge_63 (by first | exact isM.g0 (by assumption) | exact isM.g3 (by assumption) | exact isM.g4 (by assumption) | exact isM.g8 (by assumption) | exact isM.g7 (by assumption) | exact isM.g6 (by assumption) | exact isM.g5 (by assumption) | exact isM.g1 (by assumption) | exact isM.g2 (by assumption)) (by first | assumption | exact b01_r | exact bz_r | omega | (constructor <;> omega) | exact hM _ | exact hPo _ | exact hTa _ | exact hRo _) (by first | assumption | exact b01_r | exact bz_r | omega | (constructor <;> omega) | exact hM _ | exact hPo _ | exact hTa _ | exact hRo _) (by first | assumption | exact b01_r | exact bz_r | omega | (constructor <;> omega) | exact hM _ | exact hPo _ | exact hTa _ | exact hRo _) (by omega) ?_
          refine r_aload_n (pc := 64) dX11_judge_64 rfl (by first | rfl | exact isRefV_rf _) ?_
          refine rm_getf (pc := 65) dX11_judge_65 fX11_11 (by assumption) rfl ?_
          refine rj_sipush (pc := 68) dX11_judge_68 (by decide +kernel) ?_
          refine r_iload (pc := 71) dX11_judge_71 rfl ?_
          refine rj_iadd (pc := 73) dX11_judge_73 ?_
          refine rj_iald (pc := 74) (j := 1518 + k) dX11_judge_74 (by first | exact isM.g0 (by assumption) | exact isM.g3 (by assumption) | exact isM.g4 (by assumption) | exact isM.g8 (by assumption) | exact isM.g7 (by assumption) | exact isM.g6 (by assumption) | exact isM.g5 (by assumption) | exact isM.g1 (by assumption) | exact isM.g2 (by assumption)) (by first | assumption | exact b01_r | exact bz_r | omega | (constructor <;> omega) | exact hM _ | exact hPo _ | exact hTa _ | exact hRo _) (by first | assumption | exact b01_r | exact bz_r | omega | (constructor <;> omega) | exact hM _ | exact hPo _ | exact hTa _ | exact hRo _) (by first | assumption | exact b01_r | exact bz_r | omega | (constructor <;> omega) | exact hM _ | exact hPo _ | exact hTa _ | exact hRo _) (by omega) ?_
          refine rj_icmp_eq (pc := 75) (tgt := 81) dX11_judge_75 (by decide) (by first | assumption | exact b01_r | exact bz_r | omega | (constructor <;> omega) | exact hM _ | exact hPo _ | exact hTa _ | exact hRo _) (by first | assumption | exact b01_r | exact bz_r | omega | (constructor <;> omega) | exact hM _ | exact hPo _ | exact hTa _ | exact hRo _) (fun c_75 => ?_) (fun c_75 => ?_)
          · refine rj_iinc (pc := 81) dX11_judge_81 (Nat.le_of_ble_eq_true rfl) rfl ?_
            dsimp only [lsSt, List.set, mLs, mEnt]
            refine r_goto (pc := 84) (tgt := 15) dX11_judge_84 (by decide) ?_
            have y := ih (k + 1) (by omega)
            rw [show ((k + 1 : Nat) : Int) = (k : Int) + 1 by omega] at y
            exact y
          · refine r_iload (pc := 78) dX11_judge_78 rfl ?_
            refine r_ireturn (pc := 80) .int dX11_judge_80 rfl (by first | rfl | assumption) ?_
            exact ⟨⟨_, ⟨by omega, by omega⟩, rfl⟩, rfl⟩
        · refine rj_sipush (pc := 43) dX11_judge_43 (by decide +kernel) ?_
          refine r_iload (pc := 46) dX11_judge_46 rfl ?_
          refine rj_iadd (pc := 48) dX11_judge_48 ?_
          refine r_ireturn (pc := 49) .int dX11_judge_49 rfl (by first | rfl | assumption) ?_
          exact ⟨⟨_, ⟨by omega, by omega⟩, rfl⟩, rfl⟩
set_option maxHeartbeats 4000000 in
set_option maxRecDepth 100000 in
theorem m_judge {G : mG} {l : Launch} (d : Nat) {h : mH} {x s : Nat} {f4 f6 f8 f9 f10 f11 f12 f13 f14 f16 f18 : Int} {m kp was pool tape pln pap rwd rw : Nat → Int}(hB : isM h x (mFs x f4 f6 f8 f9 f10 f11 f12 f13 f14 f16 f18 s) m kp was pool tape pln pap rwd rw) (hok : mOk m) (hRo : ∀ q, InR (rwd q)) (hRw : ∀ q, InR (rw q)) (h40 : ∀ q, rwd q ≤ 40) {r i : Int} (hr : InR r) (hi : InR i) : RUNM G l (d + 3) mX11_judge [.ref x, .int (J r), .int (J i)] h (fun v h' => (∃ a, InR a ∧ v = some (.int (J a))) ∧ h' = h) := by
  have hB0 := hB
  have k2 := hok.2.2.2.1
  have wv : wrongV rwd r = 0 → (0 ≤ r ∧ r ≤ 3) ∧ 0 ≤ rwd r.toNat := by unfold wrongV; intro g; split at g <;> (try split at g) <;> first | (exfalso; omega) | omega
  have rwr : InR (wrongV rwd r) := by unfold wrongV; split <;> (try split) <;> decide
  dsimp only [mFs] at hB
  refine RUNM.of (by decide +kernel) (Nat.le_of_ble_eq_true rfl) ?_
  refine r_aload_n (pc := 0) dX11_judge_0 rfl (by first | rfl | exact isRefV_rf _) ?_
  refine r_iload_n (pc := 1) dX11_judge_1 rfl ?_
  refine r_callV1 (pc := 2) dX11_judge_2 qX11_wrong kX11_307 vX11_wrong (by exact isM.gx (by assumption)) rfl rfl (Nat.le_of_ble_eq_true rfl) (m_wrong d hB0 hRo hr) (fun v_2 h_2 q_2 => ?_)
  obtain ⟨rfl, rfl⟩ := q_2
  refine r_istore_n (pc := 5) dX11_judge_5 (Nat.le_of_ble_eq_true rfl) ?_
  dsimp only [lsSt, List.set, mLs, mEnt]
  refine r_iload_n (pc := 6) dX11_judge_6 rfl ?_
  refine rj_if_eq (pc := 7) (tgt := 12) dX11_judge_7 (by decide) (by first | assumption | exact b01_r | exact bz_r | omega | (constructor <;> omega) | exact hM _ | exact hPo _ | exact hTa _ | exact hRo _) (fun c_7 => ?_) (fun c_7 => ?_)
  · try simp only [b01_0, bz_0, Classical.not_not] at c_7
    refine rj_iconst (pc := 12) dX11_judge_12 ?_
    refine r_istore (pc := 13) dX11_judge_13 (Nat.le_of_ble_eq_true rfl) ?_
    dsimp only [lsSt, List.set, mLs, mEnt]
    rw [c_7]
    exact L_judge (G := G) (l := l) (d + 3) hB0 hok hRo hRw h40 (wv c_7).1 hi (wv c_7).2 (m 2).toNat 0 (by omega)
  · try simp only [b01_0, bz_0, Classical.not_not] at c_7
    refine r_iload_n (pc := 10) dX11_judge_10 rfl ?_
    refine r_ireturn (pc := 11) .int dX11_judge_11 rfl (by first | rfl | assumption) ?_
    exact ⟨⟨_, rwr, rfl⟩, rfl⟩
set_option maxHeartbeats 4000000 in
set_option maxRecDepth 100000 in
theorem m_find {G : mG} {l : Launch} (d : Nat) {h : mH} {x s : Nat} {f4 f6 f8 f9 f10 f11 f12 f13 f14 f16 f18 : Int} {m kp was pool tape pln pap rwd rw : Nat → Int}(hB : isM h x (mFs x f4 f6 f8 f9 f10 f11 f12 f13 f14 f16 f18 s) m kp was pool tape pln pap rwd rw) (hok : mOk m) (h6 : 0 ≤ f6 ∧ f6 ≤ 120) (hTa : ∀ q, InR (tape q)) : RUNM G l (d + 4) mX11_find [.ref x] h (fun v h' => v = some (.int (J (hbL m tape 0 f6.toNat (m 1).toNat 0))) ∧ isM h' x (mFs x f4 0 f8 f9 f10 f11 f12 f13 f14 f16 f18 s) m kp was pool tape pln pap rwd rw ∧ Same (mBlk x) h h') := by
  obtain ⟨hM, k0, k1, k2, k3, k4, k5, k7⟩ := id hok
  have hB0 := hB
  dsimp only [mFs] at hB
  refine RUNM.of (by decide +kernel) (Nat.le_of_ble_eq_true rfl) ?_
  refine r_aload_n (pc := 0) dX11_find_0 rfl (by first | rfl | exact isRefV_rf _) ?_
  refine rm_getf (pc := 1) dX11_find_1 fX11_61 (by assumption) rfl ?_
  refine r_istore_n (pc := 4) dX11_find_4 (Nat.le_of_ble_eq_true rfl) ?_
  dsimp only [lsSt, List.set, mLs, mEnt]
  refine r_aload_n (pc := 5) dX11_find_5 rfl (by first | rfl | exact isRefV_rf _) ?_
  refine rj_iconst (pc := 6) dX11_find_6 ?_
  refine rm_putf (pc := 7) dX11_find_7 fX11_61 (by assumption) rfl rfl (Nat.le_of_ble_eq_true rfl) (fun h_7 hB_7 hS_7 => ?_)
  dsimp only [List.set, mFs] at hB_7
  refine r_aload_n (pc := 10) dX11_find_10 rfl (by first | rfl | exact isRefV_rf _) ?_
  refine r_aload_n (pc := 11) dX11_find_11 rfl (by first | rfl | exact isRefV_rf _) ?_
  refine rm_getf (pc := 12) dX11_find_12 fX11_24 (by assumption) rfl ?_
  refine rj_iconst (pc := 15) dX11_find_15 ?_
  refine r_iload_n (pc := 16) dX11_find_16 rfl ?_
  refine r_callV3 (pc := 17) dX11_find_17 qX11_heldBy kX11_163 vX11_heldBy (by exact isM.gx (by assumption)) rfl rfl (Nat.le_of_ble_eq_true rfl) (by have y := m_heldBy (G := G) (l := l) d (show isM h_7 x (mFs x f4 0 f8 f9 f10 f11 f12 f13 f14 f16 f18 s) m kp was pool tape pln pap rwd rw from hB_7) hM (rs := 4) (rc := tape) (fr := 0) (to := f6.toNat) (Or.inl ⟨rfl, rfl, by omega⟩) (by omega) hTa (N := (m 1).toNat) (by omega) (by omega) (fun t ht => k7 t (by omega)); rw [show ((f6.toNat : Nat) : Int) = f6 by omega] at y; exact y) (fun v_17 h_17 q_17 => ?_)
  obtain ⟨rfl, rfl⟩ := q_17
  refine r_ireturn (pc := 20) .int dX11_find_20 rfl (by first | rfl | assumption) ?_
  exact ⟨rfl, hB_7, hS_7⟩
/-- how the name of a thing stands to bytes of a row -/
def agL (m rc : Nat → Int) (t fr : Nat) (own many : Int) : Nat → Nat → Int
  | 0, _ => own - many
  | n + 1, k => if m (265 + 14 * t + k) - rc (fr + k) = 0 then agL m rc t fr own many n (k + 1) else m (265 + 14 * t + k) - rc (fr + k)
def agN (own many : Int) : Nat := if own ≤ many then own.toNat else many.toNat
def agV (m rc : Nat → Int) (t fr : Nat) (many : Int) : Int := agL m rc t fr (m (261 + 14 * t)) many (agN (m (261 + 14 * t)) many) 0
set_option maxHeartbeats 4000000 in
set_option maxRecDepth 100000 in
theorem L_against {G : mG} {l : Launch} (d : Nat) {h : mH} {x s : Nat} {f4 f6 f8 f9 f10 f11 f12 f13 f14 f16 f18 : Int} {m kp was pool tape pln pap rwd rw : Nat → Int}(hB : isM h x (mFs x f4 f6 f8 f9 f10 f11 f12 f13 f14 f16 f18 s) m kp was pool tape pln pap rwd rw) (hok : mOk m) {rs fr t : Nat} {rc : Nat → Int} {b : Int} (hR : (rs = 4 ∧ rc = tape ∧ (fr : Int) + b ≤ 120) ∨ (rs = 0 ∧ rc = m ∧ (fr : Int) + b ≤ 2928)) (hb : 0 ≤ b) (ht : t ≤ 89) (h7 : 0 ≤ m (261 + 14 * t) ∧ m (261 + 14 * t) ≤ 7) (hn : ∀ k : Nat, k < 7 → -200 ≤ m (265 + 14 * t + k) ∧ m (265 + 14 * t + k) ≤ 200) (hc : ∀ k : Nat, (k : Int) < b → -200 ≤ rc (fr + k) ∧ rc (fr + k) ≤ 200) : ∀ (n k : Nat) (v7 : Option Value), k + n = agN (m (261 + 14 * t)) b → RUN G l (d + 1) mX11_against 16 [some (.ref x), some (.int (J (t : Int))), some (.ref (mAd x rs)), some (.int (J (fr : Int))), some (.int (J b)), some (.int (J (m (261 + 14 * t)))), some (.int (J (k : Int))), v7] [] h (fun v h' => v = some (.int (J (agL m rc t fr (m (261 + 14 * t)) b n k))) ∧ h' = h) := by
  have hag : (agN (m (261 + 14 * t)) b : Int) ≤ m (261 + 14 * t) ∧ (agN (m (261 + 14 * t)) b : Int) ≤ b ∧ ((agN (m (261 + 14 * t)) b : Int) = m (261 + 14 * t) ∨ (agN (m (261 + 14 * t)) b : Int) = b) := by unfold agN; split <;> omega
  have rb : InR b := by rcases hR with ⟨_, _, g⟩ | ⟨_, _, g⟩ <;> exact ⟨by omega, by omega⟩
  intro n
  induction n with
  | zero =>
    intro k v7 hk
    have hB0 := hB
    dsimp only [mFs] at hB
    refine r_iload (pc := 16) dX11_against_16 rfl ?_
    refine r_iload (pc := 18) dX11_against_18 rfl ?_
    refine rj_icmp_ge (pc := 20) (tgt := 66) dX11_against_20 (by decide) (by first | assumption | exact b01_r | exact bz_r | omega | (constructor <;> omega) | exact hM _ | exact hPo _ | exact hTa _ | exact hRo _) (by first | assumption | exact b01_r | exact bz_r | omega | (constructor <;> omega) | exact hM _ | exact hPo _ | exact hTa _ | exact hRo _) (fun c_20 => ?_) (fun c_20 => ?_)
    · refine r_iload (pc := 66) dX11_against_66 rfl ?_
      refine r_iload (pc := 68) dX11_against_68 rfl ?_
      refine rj_isub (pc := 70) dX11_against_70 ?_
      refine r_ireturn (pc := 71) .int dX11_against_71 rfl (by first | rfl | assumption) ?_
      exact ⟨rfl, rfl⟩
    · refine r_iload (pc := 23) dX11_against_23 rfl ?_
      refine r_iload (pc := 25) dX11_against_25 rfl ?_
      refine rj_icmp_ge (pc := 27) (tgt := 66) dX11_against_27 (by decide) (by first | assumption | exact b01_r | exact bz_r | omega | (constructor <;> omega) | exact hM _ | exact hPo _ | exact hTa _ | exact hRo _) (by first | assumption | exact b01_r | exact bz_r | omega | (constructor <;> omega) | exact hM _ | exact hPo _ | exact hTa _ | exact hRo _) (fun c_27 => ?_) (fun c_27 => ?_)
      · refine r_iload (pc := 66) dX11_against_66 rfl ?_
        refine r_iload (pc := 68) dX11_against_68 rfl ?_
        refine rj_isub (pc := 70) dX11_against_70 ?_
        refine r_ireturn (pc := 71) .int dX11_against_71 rfl (by first | rfl | assumption) ?_
        exact ⟨rfl, rfl⟩
      · exfalso; omega
  | succ n ih =>
    intro k v7 hk
    have hB0 := hB
    have g1 := hn k (by omega)
    have g2 := hc k (by omega)
    rcases hR with ⟨rfl, rfl, h3⟩ | ⟨rfl, rfl, h3⟩
    · dsimp only [mFs] at hB
      refine r_iload (pc := 16) dX11_against_16 rfl ?_
      refine r_iload (pc := 18) dX11_against_18 rfl ?_
      refine rj_icmp_ge (pc := 20) (tgt := 66) dX11_against_20 (by decide) (by first | assumption | exact b01_r | exact bz_r | omega | (constructor <;> omega) | exact hM _ | exact hPo _ | exact hTa _ | exact hRo _) (by first | assumption | exact b01_r | exact bz_r | omega | (constructor <;> omega) | exact hM _ | exact hPo _ | exact hTa _ | exact hRo _) (fun c_20 => ?_) (fun c_20 => ?_)
      · exfalso; omega
      · refine r_iload (pc := 23) dX11_against_23 rfl ?_
        refine r_iload (pc := 25) dX11_against_25 rfl ?_
        refine rj_icmp_ge (pc := 27) (tgt := 66) dX11_against_27 (by decide) (by first | assumption | exact b01_r | exact bz_r | omega | (constructor <;> omega) | exact hM _ | exact hPo _ | exact hTa _ | exact hRo _) (by first | assumption | exact b01_r | exact bz_r | omega | (constructor <;> omega) | exact hM _ | exact hPo _ | exact hTa _ | exact hRo _) (fun c_27 => ?_) (fun c_27 => ?_)
        · exfalso; omega
        · refine r_aload_n (pc := 30) dX11_against_30 rfl (by first | rfl | exact isRefV_rf _) ?_
          refine rm_getf (pc := 31) dX11_against_31 fX11_11 (by assumption) rfl ?_
          refine r_iload_n (pc := 34) dX11_against_34 rfl ?_
          refine rj_bipush (pc := 35) dX11_against_35 (by decide +kernel) ?_
          refine r_iload (pc := 37) dX11_against_37 rfl ?_
          refine r_callS3 (pc := 39) dX11_against_39 qX11_ofThing kX11_54 sX11_ofThing (Nat.le_of_ble_eq_true rfl) (m_ofThing _) (fun v_39 h_39 q_39 => ?_)
          obtain ⟨rfl, rfl⟩ := q_39
          refine rj_iald (pc := 42) (j := 265 + 14 * t + k) dX11_against_42 (by first | exact isM.g0 (by assumption) | exact isM.g3 (by assumption) | exact isM.g4 (by assumption) | exact isM.g8 (by assumption) | exact isM.g7 (by assumption) | exact isM.g6 (by assumption) | exact isM.g5 (by assumption) | exact isM.g1 (by assumption) | exact isM.g2 (by assumption)) (by first | assumption | exact b01_r | exact bz_r | omega | (constructor <;> omega) | exact hM _ | exact hPo _ | exact hTa _ | exact hRo _) (by first | assumption | exact b01_r | exact bz_r | omega | (constructor <;> omega) | exact hM _ | exact hPo _ | exact hTa _ | exact hRo _) (by first | assumption | exact b01_r | exact bz_r | omega | (constructor <;> omega) | exact hM _ | exact hPo _ | exact hTa _ | exact hRo _) (by omega) ?_
          refine r_aload_n (pc := 43) dX11_against_43 rfl (by first | rfl | exact isRefV_rf _) ?_
          refine r_iload_n (pc := 44) dX11_against_44 rfl ?_
          refine r_iload (pc := 45) dX11_against_45 rfl ?_
          refine rj_iadd (pc := 47) dX11_against_47 ?_
          refine rj_iald (pc := 48) (j := fr + k) dX11_against_48 (by first | exact isM.g0 (by assumption) | exact isM.g3 (by assumption) | exact isM.g4 (by assumption) | exact isM.g8 (by assumption) | exact isM.g7 (by assumption) | exact isM.g6 (by assumption) | exact isM.g5 (by assumption) | exact isM.g1 (by assumption) | exact isM.g2 (by assumption)) (by first | assumption | exact b01_r | exact bz_r | omega | (constructor <;> omega) | exact hM _ | exact hPo _ | exact hTa _ | exact hRo _) (by first | assumption | exact b01_r | exact bz_r | omega | (constructor <;> omega) | exact hM _ | exact hPo _ | exact hTa _ | exact hRo _) (by first | assumption | exact b01_r | exact bz_r | omega | (constructor <;> omega) | exact hM _ | exact hPo _ | exact hTa _ | exact hRo _) (by omega) ?_
          refine rj_isub (pc := 49) dX11_against_49 ?_
          refine r_istore (pc := 50) dX11_against_50 (Nat.le_of_ble_eq_true rfl) ?_
          dsimp only [lsSt, List.set, mLs, mEnt]
          refine r_iload (pc := 52) dX11_against_52 rfl ?_
          refine rj_if_eq (pc := 54) (tgt := 60) dX11_against_54 (by decide) (by first | assumption | exact b01_r | exact bz_r | omega | (constructor <;> omega) | exact hM _ | exact hPo _ | exact hTa _ | exact hRo _) (fun c_54 => ?_) (fun c_54 => ?_)
          · try simp only [b01_0, bz_0, Classical.not_not] at c_54
            refine rj_iinc (pc := 60) dX11_against_60 (Nat.le_of_ble_eq_true rfl) rfl ?_
            dsimp only [lsSt, List.set, mLs, mEnt]
            refine r_goto (pc := 63) (tgt := 16) dX11_against_63 (by decide) ?_
            rw [show ((k : Int) + 1) = ((k + 1 : Nat) : Int) by omega, agL, if_pos c_54]
            exact ih (k + 1) _ (by omega)
          · try simp only [b01_0, bz_0, Classical.not_not] at c_54
            refine r_iload (pc := 57) dX11_against_57 rfl ?_
            refine r_ireturn (pc := 59) .int dX11_against_59 rfl (by first | rfl | assumption) ?_
            exact ⟨by rw [agL, if_neg c_54], rfl⟩
    · dsimp only [mFs] at hB
      refine r_iload (pc := 16) dX11_against_16 rfl ?_
      refine r_iload (pc := 18) dX11_against_18 rfl ?_
      refine rj_icmp_ge (pc := 20) (tgt := 66) dX11_against_20 (by decide) (by first | assumption | exact b01_r | exact bz_r | omega | (constructor <;> omega) | exact hM _ | exact hPo _ | exact hTa _ | exact hRo _) (by first | assumption | exact b01_r | exact bz_r | omega | (constructor <;> omega) | exact hM _ | exact hPo _ | exact hTa _ | exact hRo _) (fun c_20 => ?_) (fun c_20 => ?_)
      · exfalso; omega
      · refine r_iload (pc := 23) dX11_against_23 rfl ?_
        refine r_iload (pc := 25) dX11_against_25 rfl ?_
        refine rj_icmp_ge (pc := 27) (tgt := 66) dX11_against_27 (by decide) (by first | assumption | exact b01_r | exact bz_r | omega | (constructor <;> omega) | exact hM _ | exact hPo _ | exact hTa _ | exact hRo _) (by first | assumption | exact b01_r | exact bz_r | omega | (constructor <;> omega) | exact hM _ | exact hPo _ | exact hTa _ | exact hRo _) (fun c_27 => ?_) (fun c_27 => ?_)
        · exfalso; omega
        · refine r_aload_n (pc := 30) dX11_against_30 rfl (by first | rfl | exact isRefV_rf _) ?_
          refine rm_getf (pc := 31) dX11_against_31 fX11_11 (by assumption) rfl ?_
          refine r_iload_n (pc := 34) dX11_against_34 rfl ?_
          refine rj_bipush (pc := 35) dX11_against_35 (by decide +kernel) ?_
          refine r_iload (pc := 37) dX11_against_37 rfl ?_
          refine r_callS3 (pc := 39) dX11_against_39 qX11_ofThing kX11_54 sX11_ofThing (Nat.le_of_ble_eq_true rfl) (m_ofThing _) (fun v_39 h_39 q_39 => ?_)
          obtain ⟨rfl, rfl⟩ := q_39
          refine rj_iald (pc := 42) (j := 265 + 14 * t + k) dX11_against_42 (by first | exact isM.g0 (by assumption) | exact isM.g3 (by assumption) | exact isM.g4 (by assumption) | exact isM.g8 (by assumption) | exact isM.g7 (by assumption) | exact isM.g6 (by assumption) | exact isM.g5 (by assumption) | exact isM.g1 (by assumption) | exact isM.g2 (by assumption)) (by first | assumption | exact b01_r | exact bz_r | omega | (constructor <;> omega) | exact hM _ | exact hPo _ | exact hTa _ | exact hRo _) (by first | assumption | exact b01_r | exact bz_r | omega | (constructor <;> omega) | exact hM _ | exact hPo _ | exact hTa _ | exact hRo _) (by first | assumption | exact b01_r | exact bz_r | omega | (constructor <;> omega) | exact hM _ | exact hPo _ | exact hTa _ | exact hRo _) (by omega) ?_
          refine r_aload_n (pc := 43) dX11_against_43 rfl (by first | rfl | exact isRefV_rf _) ?_
          refine r_iload_n (pc := 44) dX11_against_44 rfl ?_
          refine r_iload (pc := 45) dX11_against_45 rfl ?_
          refine rj_iadd (pc := 47) dX11_against_47 ?_
          refine rj_iald (pc := 48) (j := fr + k) dX11_against_48 (by first | exact isM.g0 (by assumption) | exact isM.g3 (by assumption) | exact isM.g4 (by assumption) | exact isM.g8 (by assumption) | exact isM.g7 (by assumption) | exact isM.g6 (by assumption) | exact isM.g5 (by assumption) | exact isM.g1 (by assumption) | exact isM.g2 (by assumption)) (by first | assumption | exact b01_r | exact bz_r | omega | (constructor <;> omega) | exact hM _ | exact hPo _ | exact hTa _ | exact hRo _) (by first | assumption | exact b01_r | exact bz_r | omega | (constructor <;> omega) | exact hM _ | exact hPo _ | exact hTa _ | exact hRo _) (by first | assumption | exact b01_r | exact bz_r | omega | (constructor <;> omega) | exact hM _ | exact hPo _ | exact hTa _ | exact hRo _) (by omega) ?_
          refine rj_isub (pc := 49) dX11_against_49 ?_
          refine r_istore (pc := 50) dX11_against_50 (Nat.le_of_ble_eq_true rfl) ?_
          dsimp only [lsSt, List.set, mLs, mEnt]
          refine r_iload (pc := 52) dX11_against_52 rfl ?_
          refine rj_if_eq (pc := 54) (tgt := 60) dX11_against_54 (by decide) (by first | assumption | exact b01_r | exact bz_r | omega | (constructor <;> omega) | exact hM _ | exact hPo _ | exact hTa _ | exact hRo _) (fun c_54 => ?_) (fun c_54 => ?_)
          · try simp only [b01_0, bz_0, Classical.not_not] at c_54
            refine rj_iinc (pc := 60) dX11_against_60 (Nat.le_of_ble_eq_true rfl) rfl ?_
            dsimp only [lsSt, List.set, mLs, mEnt]
            refine r_goto (pc := 63) (tgt := 16) dX11_against_63 (by decide) ?_
            rw [show ((k : Int) + 1) = ((k + 1 : Nat) : Int) by omega, agL, if_pos c_54]
            exact ih (k + 1) _ (by omega)
          · try simp only [b01_0, bz_0, Classical.not_not] at c_54
            refine r_iload (pc := 57) dX11_against_57 rfl ?_
            refine r_ireturn (pc := 59) .int dX11_against_59 rfl (by first | rfl | assumption) ?_
            exact ⟨by rw [agL, if_neg c_54], rfl⟩
set_option maxHeartbeats 4000000 in
set_option maxRecDepth 100000 in
theorem m_against {G : mG} {l : Launch} (d : Nat) {h : mH} {x s : Nat} {f4 f6 f8 f9 f10 f11 f12 f13 f14 f16 f18 : Int} {m kp was pool tape pln pap rwd rw : Nat → Int}(hB : isM h x (mFs x f4 f6 f8 f9 f10 f11 f12 f13 f14 f16 f18 s) m kp was pool tape pln pap rwd rw) (hok : mOk m) {rs fr t : Nat} {rc : Nat → Int} {b : Int} (hR : (rs = 4 ∧ rc = tape ∧ (fr : Int) + b ≤ 120) ∨ (rs = 0 ∧ rc = m ∧ (fr : Int) + b ≤ 2928)) (hb : 0 ≤ b) (ht : t ≤ 89) (h7 : 0 ≤ m (261 + 14 * t) ∧ m (261 + 14 * t) ≤ 7) (hn : ∀ k : Nat, k < 7 → -200 ≤ m (265 + 14 * t + k) ∧ m (265 + 14 * t + k) ≤ 200) (hc : ∀ k : Nat, (k : Int) < b → -200 ≤ rc (fr + k) ∧ rc (fr + k) ≤ 200) : RUNM G l (d + 1) mX11_against [.ref x, .int (J (t : Int)), .ref (mAd x rs), .int (J (fr : Int)), .int (J b)] h (fun v h' => v = some (.int (J (agV m rc t fr b))) ∧ h' = h) := by
  have hB0 := hB
  dsimp only [mFs] at hB
  refine RUNM.of (by decide +kernel) (Nat.le_of_ble_eq_true rfl) ?_
  refine r_aload_n (pc := 0) dX11_against_0 rfl (by first | rfl | exact isRefV_rf _) ?_
  refine rm_getf (pc := 1) dX11_against_1 fX11_11 (by assumption) rfl ?_
  refine r_iload_n (pc := 4) dX11_against_4 rfl ?_
  refine rj_iconst (pc := 5) dX11_against_5 ?_
  refine rj_iconst (pc := 6) dX11_against_6 ?_
  refine r_callS3 (pc := 7) dX11_against_7 qX11_ofThing kX11_54 sX11_ofThing (Nat.le_of_ble_eq_true rfl) (m_ofThing d) (fun v_7 h_7 q_7 => ?_)
  obtain ⟨rfl, rfl⟩ := q_7
  refine rj_iald (pc := 10) (j := 261 + 14 * t) dX11_against_10 (by first | exact isM.g0 (by assumption) | exact isM.g3 (by assumption) | exact isM.g4 (by assumption) | exact isM.g8 (by assumption) | exact isM.g7 (by assumption) | exact isM.g6 (by assumption) | exact isM.g5 (by assumption) | exact isM.g1 (by assumption) | exact isM.g2 (by assumption)) (by first | assumption | exact b01_r | exact bz_r | omega | (constructor <;> omega) | exact hM _ | exact hPo _ | exact hTa _ | exact hRo _) (by first | assumption | exact b01_r | exact bz_r | omega | (constructor <;> omega) | exact hM _ | exact hPo _ | exact hTa _ | exact hRo _) (by first | assumption | exact b01_r | exact bz_r | omega | (constructor <;> omega) | exact hM _ | exact hPo _ | exact hTa _ | exact hRo _) (by omega) ?_
  refine r_istore (pc := 11) dX11_against_11 (Nat.le_of_ble_eq_true rfl) ?_
  dsimp only [lsSt, List.set, mLs, mEnt]
  refine rj_iconst (pc := 13) dX11_against_13 ?_
  refine r_istore (pc := 14) dX11_against_14 (Nat.le_of_ble_eq_true rfl) ?_
  dsimp only [lsSt, List.set, mLs, mEnt]
  exact L_against d hB0 hok hR hb ht h7 hn hc (agN (m (261 + 14 * t)) b) 0 none (by omega)
/-- how the names of two things stand -/
def agT (m : Nat → Int) (t o : Nat) : Int := agV m m t (265 + 14 * o) (m (261 + 14 * o))
set_option maxHeartbeats 4000000 in
set_option maxRecDepth 100000 in
theorem m_against2 {G : mG} {l : Launch} (d : Nat) {h : mH} {x s : Nat} {f4 f6 f8 f9 f10 f11 f12 f13 f14 f16 f18 : Int} {m kp was pool tape pln pap rwd rw : Nat → Int}(hB : isM h x (mFs x f4 f6 f8 f9 f10 f11 f12 f13 f14 f16 f18 s) m kp was pool tape pln pap rwd rw) (hok : mOk m) {N : Nat} (hN : m 1 = (N : Int)) (hnm : ∀ t : Nat, t < N → (0 ≤ m (261 + 14 * t) ∧ m (261 + 14 * t) ≤ 7) ∧ ∀ k : Nat, k < 7 → -200 ≤ m (265 + 14 * t + k) ∧ m (265 + 14 * t + k) ≤ 200) {t o : Nat} (ht : t < N) (ho : o < N) : RUNM G l (d + 2) mX11_against_ [.ref x, .int (J (t : Int)), .int (J (o : Int))] h (fun v h' => v = some (.int (J (agT m t o))) ∧ h' = h) := by
  have hB0 := hB
  dsimp only [mFs] at hB
  refine RUNM.of (by decide +kernel) (Nat.le_of_ble_eq_true rfl) ?_
  have hk1 := hok.2.2.1
  obtain ⟨g1, g2⟩ := hnm t ht
  obtain ⟨g3, g4⟩ := hnm o ho
  refine r_aload_n (pc := 0) dX11_against__0 rfl (by first | rfl | exact isRefV_rf _) ?_
  refine r_iload_n (pc := 1) dX11_against__1 rfl ?_
  refine r_aload_n (pc := 2) dX11_against__2 rfl (by first | rfl | exact isRefV_rf _) ?_
  refine rm_getf (pc := 3) dX11_against__3 fX11_11 (by assumption) rfl ?_
  refine r_iload_n (pc := 6) dX11_against__6 rfl ?_
  refine rj_bipush (pc := 7) dX11_against__7 (by decide +kernel) ?_
  refine rj_iconst (pc := 9) dX11_against__9 ?_
  refine r_callS3 (pc := 10) dX11_against__10 qX11_ofThing kX11_54 sX11_ofThing (Nat.le_of_ble_eq_true rfl) (m_ofThing (d + 1)) (fun v_10 h_10 q_10 => ?_)
  obtain ⟨rfl, rfl⟩ := q_10
  refine r_aload_n (pc := 13) dX11_against__13 rfl (by first | rfl | exact isRefV_rf _) ?_
  refine rm_getf (pc := 14) dX11_against__14 fX11_11 (by assumption) rfl ?_
  refine r_iload_n (pc := 17) dX11_against__17 rfl ?_
  refine rj_iconst (pc := 18) dX11_against__18 ?_
  refine rj_iconst (pc := 19) dX11_against__19 ?_
  refine r_callS3 (pc := 20) dX11_against__20 qX11_ofThing kX11_54 sX11_ofThing (Nat.le_of_ble_eq_true rfl) (m_ofThing (d + 1)) (fun v_20 h_20 q_20 => ?_)
  obtain ⟨rfl, rfl⟩ := q_20
  refine rj_iald (pc := 23) (j := 261 + 14 * o) dX11_against__23 (by first | exact isM.g0 (by assumption) | exact isM.g3 (by assumption) | exact isM.g4 (by assumption) | exact isM.g8 (by assumption) | exact isM.g7 (by assumption) | exact isM.g6 (by assumption) | exact isM.g5 (by assumption) | exact isM.g1 (by assumption) | exact isM.g2 (by assumption)) (by first | assumption | exact b01_r | exact bz_r | omega | (constructor <;> omega) | exact hM _ | exact hPo _ | exact hTa _ | exact hRo _) (by first | assumption | exact b01_r | exact bz_r | omega | (constructor <;> omega) | exact hM _ | exact hPo _ | exact hTa _ | exact hRo _) (by first | assumption | exact b01_r | exact bz_r | omega | (constructor <;> omega) | exact hM _ | exact hPo _ | exact hTa _ | exact hRo _) (by omega) ?_
  refine r_callV4 (pc := 24) dX11_against__24 qX11_against kX11_264 vX11_against (by exact isM.gx (by assumption)) rfl rfl (Nat.le_of_ble_eq_true rfl) (by have y := m_against (G := G) (l := l) d hB0 hok (rs := 0) (fr := 265 + 14 * o) (t := t) (rc := m) (b := m (261 + 14 * o)) (Or.inr ⟨rfl, rfl, by omega⟩) g3.1 (by omega) g1 g2 (fun k hk => g4 k (by omega)); rw [show ((265 + 14 * o : Nat) : Int) = 258 + 14 * (o : Int) + 7 + 0 by omega] at y; exact y) (fun v_24 h_24 q_24 => ?_)
  obtain ⟨rfl, rfl⟩ := q_24
  refine r_ireturn (pc := 27) .int dX11_against__27 rfl (by first | rfl | assumption) ?_
  exact ⟨rfl, rfl⟩
theorem agL_r {m rc : Nat → Int} {t fr : Nat} {own many : Int} (h1 : -200 ≤ own - many ∧ own - many ≤ 200) (hn : ∀ k : Nat, k < 7 → -200 ≤ m (265 + 14 * t + k) ∧ m (265 + 14 * t + k) ≤ 200) (hc : ∀ k : Nat, (k : Int) < many → -200 ≤ rc (fr + k) ∧ rc (fr + k) ≤ 200) : ∀ n k : Nat, k + n ≤ 7 → (k : Int) + n ≤ many → -400 ≤ agL m rc t fr own many n k ∧ agL m rc t fr own many n k ≤ 400
  | 0, k, _, _ => by unfold agL; omega
  | n + 1, k, g, g2 => by
    unfold agL
    have q1 := hn k (by omega)
    have q2 := hc k (by omega)
    split
    · exact agL_r h1 hn hc n (k + 1) (by omega) (by omega)
    · omega
theorem agV_r {m rc : Nat → Int} {t fr : Nat} {many : Int} (h0 : 0 ≤ many ∧ many ≤ 120) (h7 : 0 ≤ m (261 + 14 * t) ∧ m (261 + 14 * t) ≤ 7) (hn : ∀ k : Nat, k < 7 → -200 ≤ m (265 + 14 * t + k) ∧ m (265 + 14 * t + k) ≤ 200) (hc : ∀ k : Nat, (k : Int) < many → -200 ≤ rc (fr + k) ∧ rc (fr + k) ≤ 200) : InR (agV m rc t fr many) := by
  have hag : (agN (m (261 + 14 * t)) many : Int) ≤ m (261 + 14 * t) ∧ (agN (m (261 + 14 * t)) many : Int) ≤ many := by unfold agN; split <;> omega
  have := agL_r (m := m) (rc := rc) (t := t) (fr := fr) (own := m (261 + 14 * t)) (many := many) (by omega) hn hc (agN (m (261 + 14 * t)) many) 0 (by omega) (by omega)
  unfold agV
  exact ⟨by omega, by omega⟩
theorem agT_r {m : Nat → Int} {N t o : Nat} (hnm : ∀ t : Nat, t < N → (0 ≤ m (261 + 14 * t) ∧ m (261 + 14 * t) ≤ 7) ∧ ∀ k : Nat, k < 7 → -200 ≤ m (265 + 14 * t + k) ∧ m (265 + 14 * t + k) ≤ 200) (ht : t < N) (ho : o < N) : InR (agT m t o) := by
  obtain ⟨g1, g2⟩ := hnm t ht
  obtain ⟨g3, g4⟩ := hnm o ho
  exact agV_r ⟨g3.1, by omega⟩ g1 g2 (fun k hk => g4 k (by omega))
def frL (m tape : Nat → Int) (b : Int) : Nat → Nat → Int → Int
  | 0, _, f => f
  | n + 1, t, f => frL m tape b n (t + 1) (if heldB m t = true ∧ 0 ≤ agV m tape t 0 b ∧ (f < 0 ∨ agT m t f.toNat < 0) then (t : Int) else f)
set_option maxHeartbeats 4000000 in
set_option maxRecDepth 100000 in
theorem L_from {G : mG} {l : Launch} (d : Nat) {h : mH} {x s : Nat} {f4 f6 f8 f9 f10 f11 f12 f13 f14 f16 f18 : Int} {m kp was pool tape pln pap rwd rw : Nat → Int}(hB : isM h x (mFs x f4 f6 f8 f9 f10 f11 f12 f13 f14 f16 f18 s) m kp was pool tape pln pap rwd rw) (hok : mOk m) {N : Nat} (hN : m 1 = (N : Int)) (hnm : ∀ t : Nat, t < N → (0 ≤ m (261 + 14 * t) ∧ m (261 + 14 * t) ≤ 7) ∧ ∀ k : Nat, k < 7 → -200 ≤ m (265 + 14 * t + k) ∧ m (265 + 14 * t + k) ≤ 200) {b : Int} (h6 : 0 ≤ b ∧ b ≤ 120) (hta : ∀ k : Nat, (k : Int) < b → -200 ≤ tape k ∧ tape k ≤ 200) : ∀ (n t : Nat) (f : Int), t + n = N → f < t → -5 ≤ f → RUN G l (d + 3) mX11_from 15 [some (.ref x), some (.int (J b)), some (.int (J f)), some (.int (J (t : Int)))] [] h (fun v h' => v = some (.int (J (frL m tape b n t f))) ∧ h' = h) := by
  obtain ⟨hM, k0, k1, k2, k3, k4, k5, k7⟩ := id hok
  intro n
  induction n with
  | zero =>
    intro t f ht hf hf2
    have hB0 := hB
    dsimp only [mFs] at hB
    refine r_iload_n (pc := 15) dX11_from_15 rfl ?_
    refine r_aload_n (pc := 16) dX11_from_16 rfl (by first | rfl | exact isRefV_rf _) ?_
    refine rm_getf (pc := 17) dX11_from_17 fX11_11 (by assumption) rfl ?_
    refine rj_iconst (pc := 20) dX11_from_20 ?_
    refine rj_iald (pc := 21) (j := 1) dX11_from_21 (by first | exact isM.g0 (by assumption) | exact isM.g3 (by assumption) | exact isM.g4 (by assumption) | exact isM.g8 (by assumption) | exact isM.g7 (by assumption) | exact isM.g6 (by assumption) | exact isM.g5 (by assumption) | exact isM.g1 (by assumption) | exact isM.g2 (by assumption)) (by first | assumption | exact b01_r | exact bz_r | omega | (constructor <;> omega) | exact hM _ | exact hPo _ | exact hTa _ | exact hRo _) (by first | assumption | exact b01_r | exact bz_r | omega | (constructor <;> omega) | exact hM _ | exact hPo _ | exact hTa _ | exact hRo _) (by first | assumption | exact b01_r | exact bz_r | omega | (constructor <;> omega) | exact hM _ | exact hPo _ | exact hTa _ | exact hRo _) (by omega) ?_
    refine rj_icmp_ge (pc := 22) (tgt := 68) dX11_from_22 (by decide) (by first | assumption | exact b01_r | exact bz_r | omega | (constructor <;> omega) | exact hM _ | exact hPo _ | exact hTa _ | exact hRo _) (by first | assumption | exact b01_r | exact bz_r | omega | (constructor <;> omega) | exact hM _ | exact hPo _ | exact hTa _ | exact hRo _) (fun c_22 => ?_) (fun c_22 => ?_)
    · refine r_iload_n (pc := 68) dX11_from_68 rfl ?_
      refine r_ireturn (pc := 69) .int dX11_from_69 rfl (by first | rfl | assumption) ?_
      exact ⟨rfl, rfl⟩
    · exfalso; omega
  | succ n ih =>
    intro t f ht hf hf2
    have hB0 := hB
    obtain ⟨g1, g2⟩ := hnm t (by omega)
    have ra : InR (agV m tape t 0 b) := agV_r h6 g1 g2 (fun k hk => by rw [Nat.zero_add]; exact hta k hk)
    have rt : 0 ≤ f → InR (agT m t f.toNat) := fun q => agT_r hnm (by omega) (by omega)
    dsimp only [mFs] at hB
    refine r_iload_n (pc := 15) dX11_from_15 rfl ?_
    refine r_aload_n (pc := 16) dX11_from_16 rfl (by first | rfl | exact isRefV_rf _) ?_
    refine rm_getf (pc := 17) dX11_from_17 fX11_11 (by assumption) rfl ?_
    refine rj_iconst (pc := 20) dX11_from_20 ?_
    refine rj_iald (pc := 21) (j := 1) dX11_from_21 (by first | exact isM.g0 (by assumption) | exact isM.g3 (by assumption) | exact isM.g4 (by assumption) | exact isM.g8 (by assumption) | exact isM.g7 (by assumption) | exact isM.g6 (by assumption) | exact isM.g5 (by assumption) | exact isM.g1 (by assumption) | exact isM.g2 (by assumption)) (by first | assumption | exact b01_r | exact bz_r | omega | (constructor <;> omega) | exact hM _ | exact hPo _ | exact hTa _ | exact hRo _) (by first | assumption | exact b01_r | exact bz_r | omega | (constructor <;> omega) | exact hM _ | exact hPo _ | exact hTa _ | exact hRo _) (by first | assumption | exact b01_r | exact bz_r | omega | (constructor <;> omega) | exact hM _ | exact hPo _ | exact hTa _ | exact hRo _) (by omega) ?_
    refine rj_icmp_ge (pc := 22) (tgt := 68) dX11_from_22 (by decide) (by first | assumption | exact b01_r | exact bz_r | omega | (constructor <;> omega) | exact hM _ | exact hPo _ | exact hTa _ | exact hRo _) (by first | assumption | exact b01_r | exact bz_r | omega | (constructor <;> omega) | exact hM _ | exact hPo _ | exact hTa _ | exact hRo _) (fun c_22 => ?_) (fun c_22 => ?_)
    · exfalso; omega
    · refine r_aload_n (pc := 25) dX11_from_25 rfl (by first | rfl | exact isRefV_rf _) ?_
      refine r_iload_n (pc := 26) dX11_from_26 rfl ?_
      refine r_callV1 (pc := 27) dX11_from_27 qX11_isHeld kX11_119 vX11_isHeld (by exact isM.gx (by assumption)) rfl rfl (Nat.le_of_ble_eq_true rfl) (m_isHeld (d + 1) hB0 hM (by omega) (by omega)) (fun v_27 h_27 q_27 => ?_)
      obtain ⟨rfl, rfl⟩ := q_27
      refine rj_if_eq (pc := 30) (tgt := 62) dX11_from_30 (by decide) (by first | assumption | exact b01_r | exact bz_r | omega | (constructor <;> omega) | exact hM _ | exact hPo _ | exact hTa _ | exact hRo _) (fun c_30 => ?_) (fun c_30 => ?_)
      · try simp only [b01_0, bz_0, Classical.not_not] at c_30
        refine rj_iinc (pc := 62) dX11_from_62 (Nat.le_of_ble_eq_true rfl) rfl ?_
        dsimp only [lsSt, List.set, mLs, mEnt]
        refine r_goto (pc := 65) (tgt := 15) dX11_from_65 (by decide) ?_
        have z := ih (t + 1) f (by omega) (by omega) hf2
        rw [frL, if_neg (fun g => c_30 (by have := g.1; simp only [heldB, decide_eq_true_eq] at this; rw [n_held]; exact this))]
        exact z
      · try simp only [b01_0, bz_0, Classical.not_not] at c_30
        refine r_aload_n (pc := 33) dX11_from_33 rfl (by first | rfl | exact isRefV_rf _) ?_
        refine r_iload_n (pc := 34) dX11_from_34 rfl ?_
        refine r_aload_n (pc := 35) dX11_from_35 rfl (by first | rfl | exact isRefV_rf _) ?_
        refine rm_getf (pc := 36) dX11_from_36 fX11_24 (by assumption) rfl ?_
        refine rj_iconst (pc := 39) dX11_from_39 ?_
        refine r_iload_n (pc := 40) dX11_from_40 rfl ?_
        refine r_callV4 (pc := 41) dX11_from_41 qX11_against kX11_264 vX11_against (by exact isM.gx (by assumption)) rfl rfl (Nat.le_of_ble_eq_true rfl) (by have y := m_against (G := G) (l := l) (d + 1) hB0 hok (rs := 4) (fr := 0) (t := t) (rc := tape) (b := b) (Or.inl ⟨rfl, rfl, by omega⟩) h6.1 (by omega) g1 g2 (fun k hk => by rw [Nat.zero_add]; exact hta k hk); exact y) (fun v_41 h_41 q_41 => ?_)
        obtain ⟨rfl, rfl⟩ := q_41
        refine rj_if_lt (pc := 44) (tgt := 62) dX11_from_44 (by decide) (by first | assumption | exact b01_r | exact bz_r | omega | (constructor <;> omega) | exact hM _ | exact hPo _ | exact hTa _ | exact hRo _) (fun c_44 => ?_) (fun c_44 => ?_)
        · refine rj_iinc (pc := 62) dX11_from_62 (Nat.le_of_ble_eq_true rfl) rfl ?_
          dsimp only [lsSt, List.set, mLs, mEnt]
          refine r_goto (pc := 65) (tgt := 15) dX11_from_65 (by decide) ?_
          have z := ih (t + 1) f (by omega) (by omega) hf2
          rw [frL, if_neg (fun g => absurd g.2.1 (by omega))]
          exact z
        · refine r_iload_n (pc := 47) dX11_from_47 rfl ?_
          refine rj_if_lt (pc := 48) (tgt := 60) dX11_from_48 (by decide) (by first | assumption | exact b01_r | exact bz_r | omega | (constructor <;> omega) | exact hM _ | exact hPo _ | exact hTa _ | exact hRo _) (fun c_48 => ?_) (fun c_48 => ?_)
          · refine r_iload_n (pc := 60) dX11_from_60 rfl ?_
            refine r_istore_n (pc := 61) dX11_from_61 (Nat.le_of_ble_eq_true rfl) ?_
            dsimp only [lsSt, List.set, mLs, mEnt]
            refine rj_iinc (pc := 62) dX11_from_62 (Nat.le_of_ble_eq_true rfl) rfl ?_
            dsimp only [lsSt, List.set, mLs, mEnt]
            refine r_goto (pc := 65) (tgt := 15) dX11_from_65 (by decide) ?_
            have z := ih (t + 1) (t : Int) (by omega) (by omega) (by omega)
            rw [frL, if_pos ⟨by simp only [heldB, decide_eq_true_eq]; rw [n_held] at c_30; exact c_30, by omega, Or.inl c_48⟩]
            exact z
          · refine r_aload_n (pc := 51) dX11_from_51 rfl (by first | rfl | exact isRefV_rf _) ?_
            refine r_iload_n (pc := 52) dX11_from_52 rfl ?_
            refine r_iload_n (pc := 53) dX11_from_53 rfl ?_
            have rt2 := rt (by omega)
            refine r_callV2 (pc := 54) dX11_from_54 qX11_against_ kX11_268 vX11_against_ (by exact isM.gx (by assumption)) rfl rfl (Nat.le_of_ble_eq_true rfl) (by rw [show f = ((f.toNat : Nat) : Int) by omega]; exact m_against2 d hB0 hok hN hnm (t := t) (o := f.toNat) (by omega) (by omega)) (fun v_54 h_54 q_54 => ?_)
            obtain ⟨rfl, rfl⟩ := q_54
            refine rj_if_ge (pc := 57) (tgt := 62) dX11_from_57 (by decide) (by first | assumption | exact b01_r | exact bz_r | omega | (constructor <;> omega) | exact hM _ | exact hPo _ | exact hTa _ | exact hRo _) (fun c_57 => ?_) (fun c_57 => ?_)
            · refine rj_iinc (pc := 62) dX11_from_62 (Nat.le_of_ble_eq_true rfl) rfl ?_
              dsimp only [lsSt, List.set, mLs, mEnt]
              refine r_goto (pc := 65) (tgt := 15) dX11_from_65 (by decide) ?_
              have z := ih (t + 1) f (by omega) (by omega) hf2
              rw [frL, if_neg (fun g => g.2.2.elim c_48 (by omega))]
              exact z
            · refine r_iload_n (pc := 60) dX11_from_60 rfl ?_
              refine r_istore_n (pc := 61) dX11_from_61 (Nat.le_of_ble_eq_true rfl) ?_
              dsimp only [lsSt, List.set, mLs, mEnt]
              refine rj_iinc (pc := 62) dX11_from_62 (Nat.le_of_ble_eq_true rfl) rfl ?_
              dsimp only [lsSt, List.set, mLs, mEnt]
              refine r_goto (pc := 65) (tgt := 15) dX11_from_65 (by decide) ?_
              have z := ih (t + 1) (t : Int) (by omega) (by omega) (by omega)
              rw [frL, if_pos ⟨by simp only [heldB, decide_eq_true_eq]; rw [n_held] at c_30; exact c_30, by omega, Or.inr (by omega)⟩]
              exact z
set_option maxHeartbeats 4000000 in
set_option maxRecDepth 100000 in
theorem m_from {G : mG} {l : Launch} (d : Nat) {h : mH} {x s : Nat} {f4 f6 f8 f9 f10 f11 f12 f13 f14 f16 f18 : Int} {m kp was pool tape pln pap rwd rw : Nat → Int}(hB : isM h x (mFs x f4 f6 f8 f9 f10 f11 f12 f13 f14 f16 f18 s) m kp was pool tape pln pap rwd rw) (hok : mOk m) {N : Nat} (hN : m 1 = (N : Int)) (hnm : ∀ t : Nat, t < N → (0 ≤ m (261 + 14 * t) ∧ m (261 + 14 * t) ≤ 7) ∧ ∀ k : Nat, k < 7 → -200 ≤ m (265 + 14 * t + k) ∧ m (265 + 14 * t + k) ≤ 200) (h6 : 0 ≤ f6 ∧ f6 ≤ 120) (hta : ∀ k : Nat, (k : Int) < f6 → -200 ≤ tape k ∧ tape k ≤ 200) : RUNM G l (d + 3) mX11_from [.ref x] h (fun v h' => v = some (.int (J (frL m tape f6 N 0 (-5)))) ∧ isM h' x (mFs x f4 0 f8 f9 f10 f11 f12 f13 f14 f16 f18 s) m kp was pool tape pln pap rwd rw ∧ Same (mBlk x) h h') := by
  have hB0 := hB
  dsimp only [mFs] at hB
  refine RUNM.of (by decide +kernel) (Nat.le_of_ble_eq_true rfl) ?_
  refine r_aload_n (pc := 0) dX11_from_0 rfl (by first | rfl | exact isRefV_rf _) ?_
  refine rm_getf (pc := 1) dX11_from_1 fX11_61 (by assumption) rfl ?_
  refine r_istore_n (pc := 4) dX11_from_4 (Nat.le_of_ble_eq_true rfl) ?_
  dsimp only [lsSt, List.set, mLs, mEnt]
  refine r_aload_n (pc := 5) dX11_from_5 rfl (by first | rfl | exact isRefV_rf _) ?_
  refine rj_iconst (pc := 6) dX11_from_6 ?_
  refine rm_putf (pc := 7) dX11_from_7 fX11_61 (by assumption) rfl rfl (Nat.le_of_ble_eq_true rfl) (fun h_7 hB_7 hS_7 => ?_)
  dsimp only [List.set, mFs] at hB_7
  refine rj_bipush (pc := 10) dX11_from_10 (by decide +kernel) ?_
  refine r_istore_n (pc := 12) dX11_from_12 (Nat.le_of_ble_eq_true rfl) ?_
  dsimp only [lsSt, List.set, mLs, mEnt]
  refine rj_iconst (pc := 13) dX11_from_13 ?_
  refine r_istore_n (pc := 14) dX11_from_14 (Nat.le_of_ble_eq_true rfl) ?_
  dsimp only [lsSt, List.set, mLs, mEnt]
  exact (L_from d (show isM h_7 x (mFs x f4 0 f8 f9 f10 f11 f12 f13 f14 f16 f18 s) m kp was pool tape pln pap rwd rw from hB_7) hok hN hnm h6 hta N 0 (-5) (by omega) (by omega) (by omega)).mono (fun v h' q => ⟨q.1, q.2 ▸ hB_7, q.2 ▸ hS_7⟩)
def nmB (m : Nat → Int) (t o : Nat) : Bool := heldB m o && decide (agT m o t < 0)
def bnL (m : Nat → Int) (N : Nat) (i : Int) : Nat → Nat → Int
  | 0, _ => -1
  | n + 1, t => if heldB m t = true ∧ cnt (nmB m t) N = i then (t : Int) else bnL m N i n (t + 1)
set_option maxHeartbeats 4000000 in
set_option maxRecDepth 100000 in
theorem L_byName2 {G : mG} {l : Launch} (d : Nat) {h : mH} {x s : Nat} {f4 f6 f8 f9 f10 f11 f12 f13 f14 f16 f18 : Int} {m kp was pool tape pln pap rwd rw : Nat → Int}(hB : isM h x (mFs x f4 f6 f8 f9 f10 f11 f12 f13 f14 f16 f18 s) m kp was pool tape pln pap rwd rw) (hok : mOk m) {N : Nat} (hN : m 1 = (N : Int)) (hnm : ∀ t : Nat, t < N → (0 ≤ m (261 + 14 * t) ∧ m (261 + 14 * t) ≤ 7) ∧ ∀ k : Nat, k < 7 → -200 ≤ m (265 + 14 * t + k) ∧ m (265 + 14 * t + k) ≤ 200) {i : Int} {t : Nat} (ht : t < N) {Q : Option Value → mH → Prop} (K : RUN G l (d + 3) mX11_byName 61 [some (.ref x), some (.int (J i)), some (.int (J (t : Int))), some (.int (J (cnt (nmB m t) N))), some (.int (J (N : Int)))] [] h Q) : ∀ (n o : Nat), o + n = N → RUN G l (d + 3) mX11_byName 17 [some (.ref x), some (.int (J i)), some (.int (J (t : Int))), some (.int (J (cnt (nmB m t) o))), some (.int (J (o : Int)))] [] h Q := by
  obtain ⟨hM, k0, k1, k2, k3, k4, k5, k7⟩ := id hok
  intro n
  induction n with
  | zero =>
    intro o ho
    have hB0 := hB
    dsimp only [mFs] at hB
    obtain rfl : o = N := by omega
    refine r_iload (pc := 17) dX11_byName_17 rfl ?_
    refine r_aload_n (pc := 19) dX11_byName_19 rfl (by first | rfl | exact isRefV_rf _) ?_
    refine rm_getf (pc := 20) dX11_byName_20 fX11_11 (by assumption) rfl ?_
    refine rj_iconst (pc := 23) dX11_byName_23 ?_
    refine rj_iald (pc := 24) (j := 1) dX11_byName_24 (by first | exact isM.g0 (by assumption) | exact isM.g3 (by assumption) | exact isM.g4 (by assumption) | exact isM.g8 (by assumption) | exact isM.g7 (by assumption) | exact isM.g6 (by assumption) | exact isM.g5 (by assumption) | exact isM.g1 (by assumption) | exact isM.g2 (by assumption)) (by first | assumption | exact b01_r | exact bz_r | omega | (constructor <;> omega) | exact hM _ | exact hPo _ | exact hTa _ | exact hRo _) (by first | assumption | exact b01_r | exact bz_r | omega | (constructor <;> omega) | exact hM _ | exact hPo _ | exact hTa _ | exact hRo _) (by first | assumption | exact b01_r | exact bz_r | omega | (constructor <;> omega) | exact hM _ | exact hPo _ | exact hTa _ | exact hRo _) (by omega) ?_
    refine rj_icmp_ge (pc := 25) (tgt := 61) dX11_byName_25 (by decide) (by first | assumption | exact b01_r | exact bz_r | omega | (constructor <;> omega) | exact hM _ | exact hPo _ | exact hTa _ | exact hRo _) (by first | assumption | exact b01_r | exact bz_r | omega | (constructor <;> omega) | exact hM _ | exact hPo _ | exact hTa _ | exact hRo _) (fun c_25 => ?_) (fun c_25 => ?_)
    · exact K
    · exfalso; omega
  | succ n ih =>
    intro o ho
    have hB0 := hB
    have rt := agT_r hnm (t := o) (o := t) (by omega) ht
    have rc := cnt_r (nmB m t) o
    dsimp only [mFs] at hB
    refine r_iload (pc := 17) dX11_byName_17 rfl ?_
    refine r_aload_n (pc := 19) dX11_byName_19 rfl (by first | rfl | exact isRefV_rf _) ?_
    refine rm_getf (pc := 20) dX11_byName_20 fX11_11 (by assumption) rfl ?_
    refine rj_iconst (pc := 23) dX11_byName_23 ?_
    refine rj_iald (pc := 24) (j := 1) dX11_byName_24 (by first | exact isM.g0 (by assumption) | exact isM.g3 (by assumption) | exact isM.g4 (by assumption) | exact isM.g8 (by assumption) | exact isM.g7 (by assumption) | exact isM.g6 (by assumption) | exact isM.g5 (by assumption) | exact isM.g1 (by assumption) | exact isM.g2 (by assumption)) (by first | assumption | exact b01_r | exact bz_r | omega | (constructor <;> omega) | exact hM _ | exact hPo _ | exact hTa _ | exact hRo _) (by first | assumption | exact b01_r | exact bz_r | omega | (constructor <;> omega) | exact hM _ | exact hPo _ | exact hTa _ | exact hRo _) (by first | assumption | exact b01_r | exact bz_r | omega | (constructor <;> omega) | exact hM _ | exact hPo _ | exact hTa _ | exact hRo _) (by omega) ?_
    refine rj_icmp_ge (pc := 25) (tgt := 61) dX11_byName_25 (by decide) (by first | assumption | exact b01_r | exact bz_r | omega | (constructor <;> omega) | exact hM _ | exact hPo _ | exact hTa _ | exact hRo _) (by first | assumption | exact b01_r | exact bz_r | omega | (constructor <;> omega) | exact hM _ | exact hPo _ | exact hTa _ | exact hRo _) (fun c_25 => ?_) (fun c_25 => ?_)
    · exfalso; omega
    · refine r_iload_n (pc := 28) dX11_byName_28 rfl ?_
      refine r_aload_n (pc := 29) dX11_byName_29 rfl (by first | rfl | exact isRefV_rf _) ?_
      refine r_iload (pc := 30) dX11_byName_30 rfl ?_
      refine r_callV1 (pc := 32) dX11_byName_32 qX11_isHeld kX11_119 vX11_isHeld (by exact isM.gx (by assumption)) rfl rfl (Nat.le_of_ble_eq_true rfl) (m_isHeld (d + 1) hB0 hM (by omega) (by omega)) (fun v_32 h_32 q_32 => ?_)
      obtain ⟨rfl, rfl⟩ := q_32
      refine rj_if_eq (pc := 35) (tgt := 52) dX11_byName_35 (by decide) (by first | assumption | exact b01_r | exact bz_r | omega | (constructor <;> omega) | exact hM _ | exact hPo _ | exact hTa _ | exact hRo _) (fun c_35 => ?_) (fun c_35 => ?_)
      · try simp only [b01_0, bz_0, Classical.not_not] at c_35
        refine rj_iconst (pc := 52) dX11_byName_52 ?_
        refine rj_iadd (pc := 53) dX11_byName_53 ?_
        refine r_istore_n (pc := 54) dX11_byName_54 (Nat.le_of_ble_eq_true rfl) ?_
        dsimp only [lsSt, List.set, mLs, mEnt]
        refine rj_iinc (pc := 55) dX11_byName_55 (Nat.le_of_ble_eq_true rfl) rfl ?_
        dsimp only [lsSt, List.set, mLs, mEnt]
        refine r_goto (pc := 58) (tgt := 17) dX11_byName_58 (by decide) ?_
        have z := ih (o + 1) (by omega)
        rw [show ((o + 1 : Nat) : Int) = (o : Int) + 1 by omega] at z
        rw [← (cnt_f (p := nmB m t) (n := o) (by simp only [nmB, heldB]; rw [show decide (m (258 + 14 * o) = 0) = false from decide_eq_false (by rw [n_held] at c_35; exact c_35)]; rfl))] at z
        exact z
      · try simp only [b01_0, bz_0, Classical.not_not] at c_35
        refine r_aload_n (pc := 38) dX11_byName_38 rfl (by first | rfl | exact isRefV_rf _) ?_
        refine r_iload (pc := 39) dX11_byName_39 rfl ?_
        refine r_iload_n (pc := 41) dX11_byName_41 rfl ?_
        refine r_callV2 (pc := 42) dX11_byName_42 qX11_against_ kX11_268 vX11_against_ (by exact isM.gx (by assumption)) rfl rfl (Nat.le_of_ble_eq_true rfl) (m_against2 d hB0 hok hN hnm (t := o) (o := t) (by omega) ht) (fun v_42 h_42 q_42 => ?_)
        obtain ⟨rfl, rfl⟩ := q_42
        refine rj_if_ge (pc := 45) (tgt := 52) dX11_byName_45 (by decide) (by first | assumption | exact b01_r | exact bz_r | omega | (constructor <;> omega) | exact hM _ | exact hPo _ | exact hTa _ | exact hRo _) (fun c_45 => ?_) (fun c_45 => ?_)
        · refine rj_iconst (pc := 52) dX11_byName_52 ?_
          refine rj_iadd (pc := 53) dX11_byName_53 ?_
          refine r_istore_n (pc := 54) dX11_byName_54 (Nat.le_of_ble_eq_true rfl) ?_
          dsimp only [lsSt, List.set, mLs, mEnt]
          refine rj_iinc (pc := 55) dX11_byName_55 (Nat.le_of_ble_eq_true rfl) rfl ?_
          dsimp only [lsSt, List.set, mLs, mEnt]
          refine r_goto (pc := 58) (tgt := 17) dX11_byName_58 (by decide) ?_
          have z := ih (o + 1) (by omega)
          rw [show ((o + 1 : Nat) : Int) = (o : Int) + 1 by omega] at z
          rw [← (cnt_f (p := nmB m t) (n := o) (by simp only [nmB]; rw [show decide (agT m o t < 0) = false from decide_eq_false (by omega)]; exact Bool.and_false _))] at z
          exact z
        · refine rj_iconst (pc := 48) dX11_byName_48 ?_
          refine r_goto (pc := 49) (tgt := 53) dX11_byName_49 (by decide) ?_
          refine rj_iadd (pc := 53) dX11_byName_53 ?_
          refine r_istore_n (pc := 54) dX11_byName_54 (Nat.le_of_ble_eq_true rfl) ?_
          dsimp only [lsSt, List.set, mLs, mEnt]
          refine rj_iinc (pc := 55) dX11_byName_55 (Nat.le_of_ble_eq_true rfl) rfl ?_
          dsimp only [lsSt, List.set, mLs, mEnt]
          refine r_goto (pc := 58) (tgt := 17) dX11_byName_58 (by decide) ?_
          have z := ih (o + 1) (by omega)
          rw [show ((o + 1 : Nat) : Int) = (o : Int) + 1 by omega] at z
          rw [← (cnt_t (p := nmB m t) (n := o) (by simp only [nmB, heldB]; rw [show decide (m (258 + 14 * o) = 0) = true from decide_eq_true (by rw [n_held] at c_35; exact c_35), show decide (agT m o t < 0) = true from decide_eq_true (by omega)]; rfl))] at z
          exact z
set_option maxHeartbeats 4000000 in
set_option maxRecDepth 100000 in
theorem L_byName {G : mG} {l : Launch} (d : Nat) {h : mH} {x s : Nat} {f4 f6 f8 f9 f10 f11 f12 f13 f14 f16 f18 : Int} {m kp was pool tape pln pap rwd rw : Nat → Int}(hB : isM h x (mFs x f4 f6 f8 f9 f10 f11 f12 f13 f14 f16 f18 s) m kp was pool tape pln pap rwd rw) (hok : mOk m) {N : Nat} (hN : m 1 = (N : Int)) (hnm : ∀ t : Nat, t < N → (0 ≤ m (261 + 14 * t) ∧ m (261 + 14 * t) ≤ 7) ∧ ∀ k : Nat, k < 7 → -200 ≤ m (265 + 14 * t + k) ∧ m (265 + 14 * t + k) ≤ 200) {i : Int} (hi : InR i) : ∀ (n t : Nat) (v3 v4 : Option Value), t + n = N → RUN G l (d + 3) mX11_byName 2 [some (.ref x), some (.int (J i)), some (.int (J (t : Int))), v3, v4] [] h (fun v h' => v = some (.int (J (bnL m N i n t))) ∧ h' = h) := by
  obtain ⟨hM, k0, k1, k2, k3, k4, k5, k7⟩ := id hok
  intro n
  induction n with
  | zero =>
    intro t v3 v4 ht
    have hB0 := hB
    dsimp only [mFs] at hB
    refine r_iload_n (pc := 2) dX11_byName_2 rfl ?_
    refine r_aload_n (pc := 3) dX11_byName_3 rfl (by first | rfl | exact isRefV_rf _) ?_
    refine rm_getf (pc := 4) dX11_byName_4 fX11_11 (by assumption) rfl ?_
    refine rj_iconst (pc := 7) dX11_byName_7 ?_
    refine rj_iald (pc := 8) (j := 1) dX11_byName_8 (by first | exact isM.g0 (by assumption) | exact isM.g3 (by assumption) | exact isM.g4 (by assumption) | exact isM.g8 (by assumption) | exact isM.g7 (by assumption) | exact isM.g6 (by assumption) | exact isM.g5 (by assumption) | exact isM.g1 (by assumption) | exact isM.g2 (by assumption)) (by first | assumption | exact b01_r | exact bz_r | omega | (constructor <;> omega) | exact hM _ | exact hPo _ | exact hTa _ | exact hRo _) (by first | assumption | exact b01_r | exact bz_r | omega | (constructor <;> omega) | exact hM _ | exact hPo _ | exact hTa _ | exact hRo _) (by first | assumption | exact b01_r | exact bz_r | omega | (constructor <;> omega) | exact hM _ | exact hPo _ | exact hTa _ | exact hRo _) (by omega) ?_
    refine rj_icmp_ge (pc := 9) (tgt := 82) dX11_byName_9 (by decide) (by first | assumption | exact b01_r | exact bz_r | omega | (constructor <;> omega) | exact hM _ | exact hPo _ | exact hTa _ | exact hRo _) (by first | assumption | exact b01_r | exact bz_r | omega | (constructor <;> omega) | exact hM _ | exact hPo _ | exact hTa _ | exact hRo _) (fun c_9 => ?_) (fun c_9 => ?_)
    · refine rj_iconst (pc := 82) dX11_byName_82 ?_
      refine r_ireturn (pc := 83) .int dX11_byName_83 rfl (by first | rfl | assumption) ?_
      exact ⟨rfl, rfl⟩
    · exfalso; omega
  | succ n ih =>
    intro t v3 v4 ht
    have hB0 := hB
    have rc := cnt_r (nmB m t) N
    dsimp only [mFs] at hB
    refine r_iload_n (pc := 2) dX11_byName_2 rfl ?_
    refine r_aload_n (pc := 3) dX11_byName_3 rfl (by first | rfl | exact isRefV_rf _) ?_
    refine rm_getf (pc := 4) dX11_byName_4 fX11_11 (by assumption) rfl ?_
    refine rj_iconst (pc := 7) dX11_byName_7 ?_
    refine rj_iald (pc := 8) (j := 1) dX11_byName_8 (by first | exact isM.g0 (by assumption) | exact isM.g3 (by assumption) | exact isM.g4 (by assumption) | exact isM.g8 (by assumption) | exact isM.g7 (by assumption) | exact isM.g6 (by assumption) | exact isM.g5 (by assumption) | exact isM.g1 (by assumption) | exact isM.g2 (by assumption)) (by first | assumption | exact b01_r | exact bz_r | omega | (constructor <;> omega) | exact hM _ | exact hPo _ | exact hTa _ | exact hRo _) (by first | assumption | exact b01_r | exact bz_r | omega | (constructor <;> omega) | exact hM _ | exact hPo _ | exact hTa _ | exact hRo _) (by first | assumption | exact b01_r | exact bz_r | omega | (constructor <;> omega) | exact hM _ | exact hPo _ | exact hTa _ | exact hRo _) (by omega) ?_
    refine rj_icmp_ge (pc := 9) (tgt := 82) dX11_byName_9 (by decide) (by first | assumption | exact b01_r | exact bz_r | omega | (constructor <;> omega) | exact hM _ | exact hPo _ | exact hTa _ | exact hRo _) (by first | assumption | exact b01_r | exact bz_r | omega | (constructor <;> omega) | exact hM _ | exact hPo _ | exact hTa _ | exact hRo _) (fun c_9 => ?_) (fun c_9 => ?_)
    · exfalso; omega
    · refine rj_iconst (pc := 12) dX11_byName_12 ?_
      refine r_istore_n (pc := 13) dX11_byName_13 (Nat.le_of_ble_eq_true rfl) ?_
      dsimp only [lsSt, List.set, mLs, mEnt]
      refine rj_iconst (pc := 14) dX11_byName_14 ?_
      refine r_istore (pc := 15) dX11_byName_15 (Nat.le_of_ble_eq_true rfl) ?_
      dsimp only [lsSt, List.set, mLs, mEnt]
      refine L_byName2 d hB0 hok hN hnm (by omega) ?_ N 0 (by omega)
      refine r_aload_n (pc := 61) dX11_byName_61 rfl (by first | rfl | exact isRefV_rf _) ?_
      refine r_iload_n (pc := 62) dX11_byName_62 rfl ?_
      refine r_callV1 (pc := 63) dX11_byName_63 qX11_isHeld kX11_119 vX11_isHeld (by exact isM.gx (by assumption)) rfl rfl (Nat.le_of_ble_eq_true rfl) (m_isHeld (d + 1) hB0 hM (by omega) (by omega)) (fun v_63 h_63 q_63 => ?_)
      obtain ⟨rfl, rfl⟩ := q_63
      refine rj_if_eq (pc := 66) (tgt := 76) dX11_byName_66 (by decide) (by first | assumption | exact b01_r | exact bz_r | omega | (constructor <;> omega) | exact hM _ | exact hPo _ | exact hTa _ | exact hRo _) (fun c_66 => ?_) (fun c_66 => ?_)
      · try simp only [b01_0, bz_0, Classical.not_not] at c_66
        refine rj_iinc (pc := 76) dX11_byName_76 (Nat.le_of_ble_eq_true rfl) rfl ?_
        dsimp only [lsSt, List.set, mLs, mEnt]
        refine r_goto (pc := 79) (tgt := 2) dX11_byName_79 (by decide) ?_
        rw [show ((t : Int) + 1) = ((t + 1 : Nat) : Int) by omega]
        rw [bnL, if_neg (fun g => c_66 (by have := g.1; simp only [heldB, decide_eq_true_eq] at this; rw [n_held]; exact this))]
        exact ih (t + 1) _ _ (by omega)
      · try simp only [b01_0, bz_0, Classical.not_not] at c_66
        refine r_iload_n (pc := 69) dX11_byName_69 rfl ?_
        refine r_iload_n (pc := 70) dX11_byName_70 rfl ?_
        refine rj_icmp_ne (pc := 71) (tgt := 76) dX11_byName_71 (by decide) (by first | assumption | exact b01_r | exact bz_r | omega | (constructor <;> omega) | exact hM _ | exact hPo _ | exact hTa _ | exact hRo _) (by first | assumption | exact b01_r | exact bz_r | omega | (constructor <;> omega) | exact hM _ | exact hPo _ | exact hTa _ | exact hRo _) (fun c_71 => ?_) (fun c_71 => ?_)
        · refine rj_iinc (pc := 76) dX11_byName_76 (Nat.le_of_ble_eq_true rfl) rfl ?_
          dsimp only [lsSt, List.set, mLs, mEnt]
          refine r_goto (pc := 79) (tgt := 2) dX11_byName_79 (by decide) ?_
          rw [show ((t : Int) + 1) = ((t + 1 : Nat) : Int) by omega]
          rw [bnL, if_neg (fun g => c_71 g.2)]
          exact ih (t + 1) _ _ (by omega)
        · refine r_iload_n (pc := 74) dX11_byName_74 rfl ?_
          refine r_ireturn (pc := 75) .int dX11_byName_75 rfl (by first | rfl | assumption) ?_
          exact ⟨by rw [bnL, if_pos ⟨by simp only [heldB, decide_eq_true_eq]; rw [n_held] at c_66; exact c_66, c_71⟩], rfl⟩
set_option maxHeartbeats 4000000 in
set_option maxRecDepth 100000 in
theorem m_byName {G : mG} {l : Launch} (d : Nat) {h : mH} {x s : Nat} {f4 f6 f8 f9 f10 f11 f12 f13 f14 f16 f18 : Int} {m kp was pool tape pln pap rwd rw : Nat → Int}(hB : isM h x (mFs x f4 f6 f8 f9 f10 f11 f12 f13 f14 f16 f18 s) m kp was pool tape pln pap rwd rw) (hok : mOk m) {N : Nat} (hN : m 1 = (N : Int)) (hnm : ∀ t : Nat, t < N → (0 ≤ m (261 + 14 * t) ∧ m (261 + 14 * t) ≤ 7) ∧ ∀ k : Nat, k < 7 → -200 ≤ m (265 + 14 * t + k) ∧ m (265 + 14 * t + k) ≤ 200) {i : Int} (hi : InR i) : RUNM G l (d + 3) mX11_byName [.ref x, .int (J i)] h (fun v h' => v = some (.int (J (bnL m N i N 0))) ∧ h' = h) := by
  have hB0 := hB
  dsimp only [mFs] at hB
  refine RUNM.of (by decide +kernel) (Nat.le_of_ble_eq_true rfl) ?_
  refine rj_iconst (pc := 0) dX11_byName_0 ?_
  refine r_istore_n (pc := 1) dX11_byName_1 (Nat.le_of_ble_eq_true rfl) ?_
  dsimp only [lsSt, List.set, mLs, mEnt]
  exact L_byName d hB0 hok hN hnm hi N 0 _ _ (by omega)
end mg_73
