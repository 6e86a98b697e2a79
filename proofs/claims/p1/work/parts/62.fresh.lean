/-! ===== the reference: every call on a fresh keeper ===== -/
def MO (x : Nat) (h h' : mH) : Prop := Same (mBlk x) h h'
theorem MO.refl {x : Nat} {h : mH} : MO x h h := Same.refl
theorem MO.same {x : Nat} {h h' : mH} (S : Same (mBlk x) h h') : MO x h h' := S
theorem MO.trans {x : Nat} {h h1 h2 : mH} (k : MO x h h1) (k2 : MO x h1 h2) : MO x h h2 := Same.trans k k2
theorem MO.cp {x k : Nat} {h h' : mH} (hk : k < 9) (S : Same (fun b => b = mAd x k) h h') : MO x h h' := S.mono (fun b hb => by rw [hb]; exact mAd_blk hk)
def fresM (m rwd tape : Nat → Int) : Prop := (∀ q, InR (m q)) ∧ m 0 = 1 ∧ m 1 = 0 ∧ m 2 = 0 ∧ m 3 = 0 ∧ m 4 = 0 ∧ m 5 = 0 ∧ m 6 = 0 ∧ m 7 = 0 ∧ (∀ q, 10 ≤ q → q ≤ 18 → m q = 0) ∧ m 19 = -5 ∧ m 21 = -5 ∧ (∀ q, InR (rwd q)) ∧ (∀ q, q < 4 → rwd q = -1) ∧ (∀ q, rwd q ≤ 40) ∧ ∀ q, tape q = 0
set_option maxHeartbeats 4000000 in
set_option maxRecDepth 100000 in
theorem mf_feed {G : mG} {l : Launch} (d : Nat) {h : mH} {x : Nat} {m kp was pool tape pln pap rwd rw : Nat → Int} (hB : isM h x (mFs x 0 0 0 0 0 0 0 0 0 0 0 4) m kp was pool tape pln pap rwd rw) (hF : fresM m rwd tape) {a : Int} (ha : InR a) : RUNM G l (d + 1) mX11_feed [.ref x, .int (J a)] h (fun v h' => v = some (.int (J (if a < 1 ∨ 127 < a then -2 else 1))) ∧ MO x h h') := by
  obtain ⟨hM, e0, e1, e2, e3, e4, e5, e6, e7, e10, e19, e21, hRo, er, h40, hTa⟩ := hF
  have z := m_feed (G := G) (l := l) d hB ha (by decide) (by decide)
  refine z.mono (fun v h' q => ⟨?_, ?_⟩)
  · rw [q.1]
    unfold feedV
    (repeat' split) <;> first | rfl | (exfalso; omega) | (congr 3; omega)
  · exact q.2.elim (fun y => y.2 ▸ MO.refl) (fun y => by first | exact MO.same y.2.2 | exact MO.same y.2.2.2)
set_option maxHeartbeats 4000000 in
set_option maxRecDepth 100000 in
theorem mf_clear {G : mG} {l : Launch} (d : Nat) {h : mH} {x : Nat} {m kp was pool tape pln pap rwd rw : Nat → Int} (hB : isM h x (mFs x 0 0 0 0 0 0 0 0 0 0 0 4) m kp was pool tape pln pap rwd rw) (hF : fresM m rwd tape) : RUNM G l (d + 0) mX11_clear [.ref x] h (fun v h' => v = some (.int (J (0))) ∧ MO x h h') := by
  obtain ⟨hM, e0, e1, e2, e3, e4, e5, e6, e7, e10, e19, e21, hRo, er, h40, hTa⟩ := hF
  have z := m_clear (G := G) (l := l) d hB
  refine z.mono (fun v h' q => ⟨?_, ?_⟩)
  · rw [q.1]

  · exact MO.same q.2.2
set_option maxHeartbeats 4000000 in
set_option maxRecDepth 100000 in
theorem mf_paper {G : mG} {l : Launch} (d : Nat) {h : mH} {x : Nat} {m kp was pool tape pln pap rwd rw : Nat → Int} (hB : isM h x (mFs x 0 0 0 0 0 0 0 0 0 0 0 4) m kp was pool tape pln pap rwd rw) (hF : fresM m rwd tape) {a : Int} (ha : InR a) : RUNM G l (d + 1) mX11_paper [.ref x, .int (J a)] h (fun v h' => v = some (.int (J (-1))) ∧ MO x h h') := by
  obtain ⟨hM, e0, e1, e2, e3, e4, e5, e6, e7, e10, e19, e21, hRo, er, h40, hTa⟩ := hF
  have z := m_paper (G := G) (l := l) d hB ha (by decide) (by decide)
  refine z.mono (fun v h' q => ⟨?_, ?_⟩)
  · rw [q.1]
    unfold paperV
    rw [if_neg (by omega)]
  · exact q.2 ▸ MO.refl
set_option maxHeartbeats 4000000 in
set_option maxRecDepth 100000 in
theorem mf_log {G : mG} {l : Launch} (d : Nat) {h : mH} {x : Nat} {m kp was pool tape pln pap rwd rw : Nat → Int} (hB : isM h x (mFs x 0 0 0 0 0 0 0 0 0 0 0 4) m kp was pool tape pln pap rwd rw) (hF : fresM m rwd tape) {a : Int} (ha : InR a) : RUNM G l (d + 1) mX11_log [.ref x, .int (J a)] h (fun v h' => v = some (.int (J (-1))) ∧ MO x h h') := by
  obtain ⟨hM, e0, e1, e2, e3, e4, e5, e6, e7, e10, e19, e21, hRo, er, h40, hTa⟩ := hF
  have z := m_log (G := G) (l := l) d hB ha (by omega) (by omega)
  refine z.mono (fun v h' q => ⟨?_, ?_⟩)
  · rw [q.1]
    unfold logV
    rw [if_neg (by omega)]
  · exact q.2 ▸ MO.refl
set_option maxHeartbeats 4000000 in
set_option maxRecDepth 100000 in
theorem mf_open {G : mG} {l : Launch} (d : Nat) {h : mH} {x : Nat} {m kp was pool tape pln pap rwd rw : Nat → Int} (hB : isM h x (mFs x 0 0 0 0 0 0 0 0 0 0 0 4) m kp was pool tape pln pap rwd rw) (hF : fresM m rwd tape) {a : Int} (ha : InR a) : RUNM G l (d + 3) mX11_open [.ref x, .int (J a)] h (fun v h' => v = some (.int (J (if a = 0 then 1 else -1))) ∧ MO x h h') := by
  obtain ⟨hM, e0, e1, e2, e3, e4, e5, e6, e7, e10, e19, e21, hRo, er, h40, hTa⟩ := hF
  have z := m_open (G := G) (l := l) d hB hM (C := 1) (by rw [e0]; rfl) (by decide) ha
  refine z.mono (fun v h' q => ⟨?_, ?_⟩)
  · rw [q.1]
    unfold openV
    by_cases c : a = 0
    · subst c
      have y := e10 18 (by decide) (by decide)
      rw [if_pos (by omega), if_pos ⟨by omega, by omega, y⟩, if_neg (by omega), if_pos rfl, e0]
    · rw [if_neg (by omega), if_neg c]
  · exact q.2.elim (fun y => y.2 ▸ MO.refl) (fun y => MO.same y.2.2.2)
set_option maxHeartbeats 4000000 in
set_option maxRecDepth 100000 in
theorem mf_count {G : mG} {l : Launch} (d : Nat) {h : mH} {x : Nat} {m kp was pool tape pln pap rwd rw : Nat → Int} (hB : isM h x (mFs x 0 0 0 0 0 0 0 0 0 0 0 4) m kp was pool tape pln pap rwd rw) (hF : fresM m rwd tape) {a : Int} (ha : InR a) {b : Int} (hb : InR b) : RUNM G l (d + 1) mX11_count [.ref x, .int (J a), .int (J b)] h (fun v h' => v = some (.int (J (if 0 ≤ a ∧ a < 8 then b else -1))) ∧ MO x h h') := by
  obtain ⟨hM, e0, e1, e2, e3, e4, e5, e6, e7, e10, e19, e21, hRo, er, h40, hTa⟩ := hF
  have z := m_count (G := G) (l := l) d hB (e := b) ha
  refine z.mono (fun v h' q => ⟨?_, ?_⟩)
  · rw [q.1]
    unfold countV
    by_cases c : 0 ≤ a ∧ a < 8
    · have y := e10 (10 + a).toNat (by omega) (by omega)
      rw [if_pos (by omega), if_pos c, y, Int.zero_add, ← J_wrap]
    · rw [if_neg (by omega), if_neg c]
  · exact q.2.elim (fun y => y.2 ▸ MO.refl) (fun y => by first | exact MO.same y.2.2 | exact MO.same y.2.2.2)
set_option maxHeartbeats 4000000 in
set_option maxRecDepth 100000 in
theorem mf_cancel {G : mG} {l : Launch} (d : Nat) {h : mH} {x : Nat} {m kp was pool tape pln pap rwd rw : Nat → Int} (hB : isM h x (mFs x 0 0 0 0 0 0 0 0 0 0 0 4) m kp was pool tape pln pap rwd rw) (hF : fresM m rwd tape) {a : Int} (ha : InR a) : RUNM G l (d + 3) mX11_cancel [.ref x, .int (J a)] h (fun v h' => v = some (.int (J (-1))) ∧ MO x h h') := by
  obtain ⟨hM, e0, e1, e2, e3, e4, e5, e6, e7, e10, e19, e21, hRo, er, h40, hTa⟩ := hF
  have z := m_cancel (G := G) (l := l) d hB hM (by omega) ha
  refine z.mono (fun v h' q => ⟨?_, ?_⟩)
  · rw [q.1]
    unfold cancelV
    rw [if_neg (by omega)]
  · exact q.2.elim (fun y => y.2 ▸ MO.refl) (fun y => by first | exact MO.same y.2.2 | exact MO.same y.2.2.2)
set_option maxHeartbeats 4000000 in
set_option maxRecDepth 100000 in
theorem mf_rank {G : mG} {l : Launch} (d : Nat) {h : mH} {x : Nat} {m kp was pool tape pln pap rwd rw : Nat → Int} (hB : isM h x (mFs x 0 0 0 0 0 0 0 0 0 0 0 4) m kp was pool tape pln pap rwd rw) (hF : fresM m rwd tape) {a : Int} (ha : InR a) {b : Int} (hb : InR b) : RUNM G l (d + 3) mX11_rank [.ref x, .int (J a), .int (J b)] h (fun v h' => v = some (.int (J (-1))) ∧ MO x h h') := by
  obtain ⟨hM, e0, e1, e2, e3, e4, e5, e6, e7, e10, e19, e21, hRo, er, h40, hTa⟩ := hF
  have z := m_rank (G := G) (l := l) d hB hM (by omega) ha hb
  refine z.mono (fun v h' q => ⟨?_, ?_⟩)
  · rw [q.1]
    unfold rankV
    rw [if_neg (by omega)]
  · exact q.2.elim (fun y => y.2 ▸ MO.refl) (fun y => by first | exact MO.same y.2.2 | exact MO.same y.2.2.2)
theorem par0 {m : Nat → Int} (e19 : m 19 = -5) : parOk m 1 := fun k h0 h1 => by
  obtain rfl : k = 0 := by omega
  show -5 ≤ m 19 ∧ m 19 < 0
  omega
theorem own0 {m : Nat → Int} {C : Nat} : ownOk m 0 C := fun t ht => by omega
theorem len0 {m : Nat → Int} (e1 : m 1 = 0) : lenOk m := fun t h0 h1 => by omega
set_option maxHeartbeats 4000000 in
set_option maxRecDepth 100000 in
theorem mf_below {G : mG} {l : Launch} (d : Nat) {h : mH} {x : Nat} {m kp was pool tape pln pap rwd rw : Nat → Int} (hB : isM h x (mFs x 0 0 0 0 0 0 0 0 0 0 0 4) m kp was pool tape pln pap rwd rw) (hF : fresM m rwd tape) {a : Int} (ha : InR a) {b : Int} (hb : InR b) : RUNM G l (d + 2) mX11_below [.ref x, .int (J a), .int (J b)] h (fun v h' => v = some (.int (J (if a = 0 ∧ b = 0 then 1 else -1))) ∧ MO x h h') := by
  obtain ⟨hM, e0, e1, e2, e3, e4, e5, e6, e7, e10, e19, e21, hRo, er, h40, hTa⟩ := hF
  have z := m_below (G := G) (l := l) d hB (C := 1) (by rw [e0]; rfl) (by decide) (par0 e19) ha hb
  refine z.mono (fun v h' q => ⟨?_, ?_⟩)
  · rw [q.1]
    unfold belowV
    by_cases c : a = 0 ∧ b = 0
    · obtain ⟨rfl, rfl⟩ := c
      rw [if_pos (by omega), if_pos ⟨rfl, rfl⟩]
      rfl
    · rw [if_neg (by omega), if_neg c]
  · exact q.2 ▸ MO.refl
set_option maxHeartbeats 4000000 in
set_option maxRecDepth 100000 in
theorem mf_scope {G : mG} {l : Launch} (d : Nat) {h : mH} {x : Nat} {m kp was pool tape pln pap rwd rw : Nat → Int} (hB : isM h x (mFs x 0 0 0 0 0 0 0 0 0 0 0 4) m kp was pool tape pln pap rwd rw) (hF : fresM m rwd tape) {a : Int} (ha : InR a) {b : Int} (hb : InR b) : RUNM G l (d + 4) mX11_scope [.ref x, .int (J a), .int (J b)] h (fun v h' => v = some (.int (J (if a = 0 then (if b = 1 ∨ b = 5 then -5 else if 0 ≤ b ∧ b ≤ 5 then 0 else -1) else -1))) ∧ MO x h h') := by
  obtain ⟨hM, e0, e1, e2, e3, e4, e5, e6, e7, e10, e19, e21, hRo, er, h40, hTa⟩ := hF
  have z := m_scope (G := G) (l := l) d hB hM (N := 0) (by rw [e1]; rfl) (by decide) (C := 1) (by rw [e0]; rfl) (by decide) (by decide) (par0 e19) own0 ha hb
  refine z.mono (fun v h' q => ⟨?_, ?_⟩)
  · rw [q.1]
    unfold scopeV
    by_cases c : a = 0
    · subst c
      have y := e10 18 (by decide) (by decide)
      have y0 : m (18 + 4 * (0 : Int)).toNat = 0 := y
      have y1 : m (19 + 4 * (0 : Int)).toNat = -5 := e19
      have y2 : m (21 + 4 * (0 : Int)).toNat = -5 := e21
      have y3 : entsN m 0 0 1 = 0 := by unfold entsN; rw [cnt_1]; rfl
      have y4 : upN m 1 (-5) = 0 := rfl
      rw [if_pos (by omega), if_pos rfl, y0, y1, y2, y3, y4, if_pos rfl]
      show some (Value.int (J (if b = 0 then 0 else if b = 1 then -5 else if b = 2 then 0 else if b = 3 then 0 else if b = 4 then 0 else if b = 5 then -5 else -1))) = _
      (repeat' split) <;> first | rfl | (exfalso; omega) | (congr 3; omega)
    · rw [if_neg (by omega), if_neg c]
  · exact q.2 ▸ MO.refl
set_option maxHeartbeats 4000000 in
set_option maxRecDepth 100000 in
theorem mf_faults {G : mG} {l : Launch} (d : Nat) {h : mH} {x : Nat} {m kp was pool tape pln pap rwd rw : Nat → Int} (hB : isM h x (mFs x 0 0 0 0 0 0 0 0 0 0 0 4) m kp was pool tape pln pap rwd rw) (hF : fresM m rwd tape) {a : Int} (ha : InR a) : RUNM G l (d + 4) mX11_faults [.ref x, .int (J a)] h (fun v h' => v = some (.int (J (if a = -1 then 0 else -1))) ∧ MO x h h') := by
  obtain ⟨hM, e0, e1, e2, e3, e4, e5, e6, e7, e10, e19, e21, hRo, er, h40, hTa⟩ := hF
  have z := m_faults (G := G) (l := l) d hB hM (by omega) (N := 0) (by rw [e4]; rfl) (by decide) ha
  refine z.mono (fun v h' q => ⟨?_, ?_⟩)
  · rw [q.1]
    unfold faultsV
    by_cases c : a = -1
    · rw [if_pos (Or.inl c), if_pos c]
      unfold manyV
      rw [if_neg (by omega), e5]
    · rw [if_neg (by omega), if_neg c]
  · exact q.2 ▸ MO.refl
set_option maxHeartbeats 4000000 in
set_option maxRecDepth 100000 in
theorem mf_fault {G : mG} {l : Launch} (d : Nat) {h : mH} {x : Nat} {m kp was pool tape pln pap rwd rw : Nat → Int} (hB : isM h x (mFs x 0 0 0 0 0 0 0 0 0 0 0 4) m kp was pool tape pln pap rwd rw) (hF : fresM m rwd tape) {a : Int} (ha : InR a) {b : Int} (hb : InR b) {u : Int} (hu : InR u) : RUNM G l (d + 4) mX11_fault [.ref x, .int (J a), .int (J b), .int (J u)] h (fun v h' => v = some (.int (J (-1))) ∧ MO x h h') := by
  obtain ⟨hM, e0, e1, e2, e3, e4, e5, e6, e7, e10, e19, e21, hRo, er, h40, hTa⟩ := hF
  have z := m_fault (G := G) (l := l) d hB hM (by omega) (N := 0) (by rw [e4]; rfl) (by decide) (by omega) ha hb hu
  refine z.mono (fun v h' q => ⟨?_, ?_⟩)
  · rw [q.1]
    unfold faultV
    rw [if_neg (fun y => by
      have y1 := y.1
      have y2 := y.2.2
      have y3 : manyV m 0 a = 0 := by unfold manyV; rw [if_neg (by omega), e5]
      omega)]
  · exact q.2 ▸ MO.refl
set_option maxHeartbeats 4000000 in
set_option maxRecDepth 100000 in
theorem mf_told {G : mG} {l : Launch} (d : Nat) {h : mH} {x : Nat} {m kp was pool tape pln pap rwd rw : Nat → Int} (hB : isM h x (mFs x 0 0 0 0 0 0 0 0 0 0 0 4) m kp was pool tape pln pap rwd rw) (hF : fresM m rwd tape) {a : Int} (ha : InR a) : RUNM G l (d + 4) mX11_told [.ref x, .int (J a)] h (fun v h' => v = some (.int (J (if a = 0 ∨ a = 1 then 1 else if 2 ≤ a ∧ a ≤ 9 then 0 else -1))) ∧ MO x h h') := by
  obtain ⟨hM, e0, e1, e2, e3, e4, e5, e6, e7, e10, e19, e21, hRo, er, h40, hTa⟩ := hF
  have z := m_told (G := G) (l := l) d hB hM (N := 0) (by rw [e1]; rfl) (by decide) (C := 1) (by rw [e0]; rfl) (by decide) (T := 0) (by rw [e3]; rfl) (by decide) ha
  refine z.mono (fun v h' q => ⟨?_, ?_⟩)
  · rw [q.1]
    unfold toldV
    have y : cnt (openB m) 1 = 1 := by unfold cnt cnt openB; rw [show 18 + 4 * 0 = 18 by rfl, e10 18 (by decide) (by decide)]; rfl
    rw [e0, e1, e2, e3, e7, y]
    show some (Value.int (J (if a = 0 then 1 else if a = 1 then 1 else if a = 2 then 0 else if a = 3 then 0 else if a = 4 then 0 else if a = 5 then 0 else if a = 6 then 0 else if a = 7 then 0 else if a = 8 then 0 else if a = 9 then 0 else -1))) = _
    (repeat' split) <;> first | rfl | (exfalso; omega) | (congr 3; omega)
  · exact q.2 ▸ MO.refl
set_option maxHeartbeats 4000000 in
set_option maxRecDepth 100000 in
theorem mf_name {G : mG} {l : Launch} (d : Nat) {h : mH} {x : Nat} {m kp was pool tape pln pap rwd rw : Nat → Int} (hB : isM h x (mFs x 0 0 0 0 0 0 0 0 0 0 0 4) m kp was pool tape pln pap rwd rw) (hF : fresM m rwd tape) {a : Int} (ha : InR a) {b : Int} (hb : InR b) : RUNM G l (d + 2) mX11_name [.ref x, .int (J a), .int (J b)] h (fun v h' => v = some (.int (J (-1))) ∧ MO x h h') := by
  obtain ⟨hM, e0, e1, e2, e3, e4, e5, e6, e7, e10, e19, e21, hRo, er, h40, hTa⟩ := hF
  have z := m_name (G := G) (l := l) d hB hM (by omega) (len0 e1) ha hb
  refine z.mono (fun v h' q => ⟨?_, ?_⟩)
  · rw [q.1]
    unfold nameV
    rw [if_neg (by omega)]
  · exact q.2 ▸ MO.refl
set_option maxHeartbeats 4000000 in
set_option maxRecDepth 100000 in
theorem mf_counter {G : mG} {l : Launch} (d : Nat) {h : mH} {x : Nat} {m kp was pool tape pln pap rwd rw : Nat → Int} (hB : isM h x (mFs x 0 0 0 0 0 0 0 0 0 0 0 4) m kp was pool tape pln pap rwd rw) (hF : fresM m rwd tape) {a : Int} (ha : InR a) : RUNM G l (d + 1) mX11_counter [.ref x, .int (J a)] h (fun v h' => v = some (.long (if 0 ≤ a ∧ a < 8 then 0 else -9223372036854775808)) ∧ MO x h h') := by
  obtain ⟨hM, e0, e1, e2, e3, e4, e5, e6, e7, e10, e19, e21, hRo, er, h40, hTa⟩ := hF
  have z := m_counter (G := G) (l := l) d hB ha
  refine z.mono (fun v h' q => ⟨?_, ?_⟩)
  · rw [q.1]
    unfold counterV
    by_cases c : 0 ≤ a ∧ a < 8
    · have y := e10 (10 + a).toNat (by omega) (by omega)
      rw [if_pos (by omega), if_pos c, y]
      unfold lgV
      rw [← J_0]
      rfl
    · rw [if_neg (by omega), if_neg c]
      rfl
  · exact q.2 ▸ MO.refl
theorem wrong0 {rwd : Nat → Int} (er : ∀ q, q < 4 → rwd q = -1) (a : Int) : wrongV rwd a = if 0 ≤ a ∧ a < 4 then -11 else -1 := by
  unfold wrongV
  by_cases c : 0 ≤ a ∧ a < 4
  · have y := er a.toNat (by omega)
    rw [if_pos (by omega), if_pos (by omega), if_pos c]
  · rw [if_neg (by omega), if_neg c]
theorem wrong0_n {rwd : Nat → Int} (er : ∀ q, q < 4 → rwd q = -1) (a : Int) : ¬ wrongV rwd a = 0 := by
  rw [wrong0 er a]
  split <;> omega
set_option maxHeartbeats 4000000 in
set_option maxRecDepth 100000 in
theorem mf_get {G : mG} {l : Launch} (d : Nat) {h : mH} {x : Nat} {m kp was pool tape pln pap rwd rw : Nat → Int} (hB : isM h x (mFs x 0 0 0 0 0 0 0 0 0 0 0 4) m kp was pool tape pln pap rwd rw) (hF : fresM m rwd tape) {a : Int} (ha : InR a) {b : Int} (hb : InR b) : RUNM G l (d + 3) mX11_get [.ref x, .int (J a), .int (J b)] h (fun v h' => v = some (.long (-9223372036854775808)) ∧ MO x h h') := by
  obtain ⟨hM, e0, e1, e2, e3, e4, e5, e6, e7, e10, e19, e21, hRo, er, h40, hTa⟩ := hF
  have z := m_get (G := G) (l := l) d hB hRo ha hb h40
  refine z.mono (fun v h' q => ⟨?_, ?_⟩)
  · rw [q.1]
    unfold getV
    rw [if_neg (fun y => wrong0_n er a y.1)]
    rfl
  · exact q.2 ▸ MO.refl
set_option maxHeartbeats 4000000 in
set_option maxRecDepth 100000 in
theorem mf_set {G : mG} {l : Launch} (d : Nat) {h : mH} {x : Nat} {m kp was pool tape pln pap rwd rw : Nat → Int} (hB : isM h x (mFs x 0 0 0 0 0 0 0 0 0 0 0 4) m kp was pool tape pln pap rwd rw) (hF : fresM m rwd tape) {a : Int} (ha : InR a) {b : Int} (hb : InR b) {u : Int} (hu : InR u) : RUNM G l (d + 3) mX11_set [.ref x, .int (J a), .int (J b), .int (J u)] h (fun v h' => v = some (.int (J (if 0 ≤ a ∧ a < 4 then -11 else -1))) ∧ MO x h h') := by
  obtain ⟨hM, e0, e1, e2, e3, e4, e5, e6, e7, e10, e19, e21, hRo, er, h40, hTa⟩ := hF
  have z := m_set (G := G) (l := l) d hB hRo ha (e := u) hb h40
  refine z.mono (fun v h' q => ⟨?_, ?_⟩)
  · rw [q.1]
    unfold setV
    rw [if_neg (wrong0_n er a), wrong0 er a]
  · exact q.2.elim (fun y => y.2 ▸ MO.refl) (fun y => by first | exact MO.same y.2.2 | exact MO.same y.2.2.2)
set_option maxHeartbeats 4000000 in
set_option maxRecDepth 100000 in
theorem mf_row {G : mG} {l : Launch} (d : Nat) {h : mH} {x : Nat} {m kp was pool tape pln pap rwd rw : Nat → Int} (hB : isM h x (mFs x 0 0 0 0 0 0 0 0 0 0 0 4) m kp was pool tape pln pap rwd rw) (hF : fresM m rwd tape) {a : Int} (ha : InR a) {b : Int} (hb : InR b) : RUNM G l (d + 2) mX11_row [.ref x, .int (J a), .int (J b)] h (fun v h' => v = some (.int (J (if 0 ≤ a ∧ a < 4 then (if 40 < b then -2 else if b < 0 then -14 else 1) else -1))) ∧ MO x h h') := by
  obtain ⟨hM, e0, e1, e2, e3, e4, e5, e6, e7, e10, e19, e21, hRo, er, h40, hTa⟩ := hF
  have z := m_row (G := G) (l := l) d hB ha hb
  refine z.mono (fun v h' q => ⟨?_, ?_⟩)
  · rw [q.1]
    unfold rowV
    (repeat' split) <;> first | rfl | (exfalso; omega) | (congr 3; omega)
  · exact q.2.elim (fun y => y.2 ▸ MO.refl) (fun y => by first | exact MO.same y.2.2 | exact MO.same y.2.2.2)
set_option maxHeartbeats 4000000 in
set_option maxRecDepth 100000 in
theorem mf_youngest {G : mG} {l : Launch} (d : Nat) {h : mH} {x : Nat} {m kp was pool tape pln pap rwd rw : Nat → Int} (hB : isM h x (mFs x 0 0 0 0 0 0 0 0 0 0 0 4) m kp was pool tape pln pap rwd rw) (hF : fresM m rwd tape) {a : Int} (ha : InR a) : RUNM G l (d + 3) mX11_youngest [.ref x, .int (J a)] h (fun v h' => v = some (.int (J (if a = 0 then -5 else -1))) ∧ MO x h h') := by
  obtain ⟨hM, e0, e1, e2, e3, e4, e5, e6, e7, e10, e19, e21, hRo, er, h40, hTa⟩ := hF
  have z := m_youngest (G := G) (l := l) d hB hM (N := 0) (by rw [e1]; rfl) (by decide) (C := 1) (by rw [e0]; rfl) (by decide) (par0 e19) own0 ha
  refine z.mono (fun v h' q => ⟨?_, ?_⟩)
  · rw [q.1]
    unfold youngV
    by_cases c : a = 0
    · rw [if_pos (by omega), if_pos c]; rfl
    · rw [if_neg (by omega), if_neg c]
  · exact q.2 ▸ MO.refl
set_option maxHeartbeats 4000000 in
set_option maxRecDepth 100000 in
theorem mf_move {G : mG} {l : Launch} (d : Nat) {h : mH} {x : Nat} {m kp was pool tape pln pap rwd rw : Nat → Int} (hB : isM h x (mFs x 0 0 0 0 0 0 0 0 0 0 0 4) m kp was pool tape pln pap rwd rw) (hF : fresM m rwd tape) {a : Int} (ha : InR a) {b : Int} (hb : InR b) : RUNM G l (d + 3) mX11_move [.ref x, .int (J a), .int (J b)] h (fun v h' => v = some (.int (J (-1))) ∧ MO x h h') := by
  obtain ⟨hM, e0, e1, e2, e3, e4, e5, e6, e7, e10, e19, e21, hRo, er, h40, hTa⟩ := hF
  have z := m_move (G := G) (l := l) d hB hM (N := 0) (by rw [e1]; rfl) (by decide) (C := 1) (by rw [e0]; rfl) (by decide) (by decide) (by rw [e6]; decide) ha hb
  refine z.mono (fun v h' q => ⟨?_, ?_⟩)
  · rw [q.1]
    unfold moveV
    rw [if_neg (by omega)]
  · exact q.2.elim (fun y => y.2 ▸ MO.refl) (fun y => by first | exact MO.same y.2.2 | exact MO.same y.2.2.2)
set_option maxHeartbeats 4000000 in
set_option maxRecDepth 100000 in
theorem mf_entry {G : mG} {l : Launch} (d : Nat) {h : mH} {x : Nat} {m kp was pool tape pln pap rwd rw : Nat → Int} (hB : isM h x (mFs x 0 0 0 0 0 0 0 0 0 0 0 4) m kp was pool tape pln pap rwd rw) (hF : fresM m rwd tape) {a : Int} (ha : InR a) {b : Int} (hb : InR b) : RUNM G l (d + 4) mX11_entry [.ref x, .int (J a), .int (J b)] h (fun v h' => v = some (.int (J (-1))) ∧ MO x h h') := by
  obtain ⟨hM, e0, e1, e2, e3, e4, e5, e6, e7, e10, e19, e21, hRo, er, h40, hTa⟩ := hF
  have z := m_entry (G := G) (l := l) d hB hM (N := 0) (by rw [e1]; rfl) (by decide) (C := 1) (by rw [e0]; rfl) (by decide) (by decide) ha hb (by rw [e6]; decide)
  refine z.mono (fun v h' q => ⟨?_, ?_⟩)
  · rw [q.1]
    unfold entryV
    have y : entsN m a 0 1 = 0 := by unfold entsN; rw [cnt_1]; rfl
    rw [y, if_neg (by omega)]
  · exact q.2 ▸ MO.refl
set_option maxHeartbeats 4000000 in
set_option maxRecDepth 100000 in
theorem mf_ready {G : mG} {l : Launch} (d : Nat) {h : mH} {x : Nat} {m kp was pool tape pln pap rwd rw : Nat → Int} (hB : isM h x (mFs x 0 0 0 0 0 0 0 0 0 0 0 4) m kp was pool tape pln pap rwd rw) (hF : fresM m rwd tape) {a : Int} (ha : InR a) : RUNM G l (d + 3) mX11_ready [.ref x, .int (J a)] h (fun v h' => v = some (.int (J (if a < 0 then -1 else -5))) ∧ MO x h h') := by
  obtain ⟨hM, e0, e1, e2, e3, e4, e5, e6, e7, e10, e19, e21, hRo, er, h40, hTa⟩ := hF
  have z := m_ready (G := G) (l := l) d hB hM (T := 0) (by rw [e3]; rfl) (by decide) (fun t ht => by omega) ha
  refine z.mono (fun v h' q => ⟨?_, ?_⟩)
  · rw [q.1]
    unfold readyV
    rfl
  · exact q.2 ▸ MO.refl
set_option maxHeartbeats 4000000 in
set_option maxRecDepth 100000 in
theorem mf_thing {G : mG} {l : Launch} (d : Nat) {h : mH} {x : Nat} {m kp was pool tape pln pap rwd rw : Nat → Int} (hB : isM h x (mFs x 0 0 0 0 0 0 0 0 0 0 0 4) m kp was pool tape pln pap rwd rw) (hF : fresM m rwd tape) {a : Int} (ha : InR a) {b : Int} (hb : InR b) : RUNM G l (d + 33) mX11_thing [.ref x, .int (J a), .int (J b)] h (fun v h' => v = some (.int (J (-1))) ∧ MO x h h') := by
  obtain ⟨hM, e0, e1, e2, e3, e4, e5, e6, e7, e10, e19, e21, hRo, er, h40, hTa⟩ := hF
  have z := m_thing (G := G) (l := l) d hB hM (by omega) (by decide) ha hb (fun y => by omega)
  refine z.mono (fun v h' q => ⟨?_, ?_⟩)
  · rw [q.1]
    unfold thingV
    rw [if_neg (by omega)]
  · exact MO.same q.2.2
set_option maxHeartbeats 4000000 in
set_option maxRecDepth 100000 in
theorem mf_of {G : mG} {l : Launch} (d : Nat) {h : mH} {x : Nat} {m kp was pool tape pln pap rwd rw : Nat → Int} (hB : isM h x (mFs x 0 0 0 0 0 0 0 0 0 0 0 4) m kp was pool tape pln pap rwd rw) (hF : fresM m rwd tape) {a : Int} (ha : InR a) {b : Int} (hb : InR b) : RUNM G l (d + 33) mX11_of [.ref x, .int (J a), .int (J b)] h (fun v h' => v = some (.int (J (-1))) ∧ MO x h h') := by
  obtain ⟨hM, e0, e1, e2, e3, e4, e5, e6, e7, e10, e19, e21, hRo, er, h40, hTa⟩ := hF
  have z := m_of (G := G) (l := l) d hB hM (by omega) (C := 1) (by rw [e0]; rfl) (by decide) (by decide) ha hb (fun y => by omega)
  refine z.mono (fun v h' q => ⟨?_, ?_⟩)
  · rw [q.1]
    unfold ofV
    rw [if_neg (by omega)]
  · exact MO.same q.2.2
