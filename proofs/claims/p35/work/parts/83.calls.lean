/-! ===== calls that change the reference's row ===== -/
theorem keep_ev {m m' pool : Nat → Int} {B B' : Int} (h : Mid m pool B) (ht : TkM m pool 99) (hi : Inv m' pool B') (k : Ev m m') : Mid m' pool B' ∧ TkM m' pool 99 := by
  have k0 := h.1.1.2.1
  have k3 := h.1.1.2.2.2.2.1
  have es := k.es
  exact ⟨⟨hi, k.sc h.2.1 k0.2, es.2.2.2.1 h.2.2.1, es.ns h.2.2.2 k0.2⟩, ht.es es k3.2 k0.2⟩
/-- what a text call leaves: the row, the pool, and that the pool below its old end is as it was -/
def Txt (m m' pool pool' : Nat → Int) (B T : Int) : Prop := All m' pool' B T ∧ poolOk pool' ∧ (∀ q : Nat, (q : Int) < m 8 → pool' q = pool q) ∧ m 8 ≤ m' 8
theorem takeR_nm {tape : Nat → Int} {len f11 f12 : Int} (h : (wR len (takeR tape len f11 f12)).1 = true) : nameB tape len (ps0 f11 f12) ∧ ((hereF tape len (nameF tape len (ps0 f11 f12)).1 = 61 ∧ (wR len (stepsW tape len 1 false (advF (nameF tape len (ps0 f11 f12))))).1 = true) ∨ (nameF tape len (ps0 f11 f12)).1 = len) := by
  by_cases c : nameB tape len (ps0 f11 f12)
  · refine ⟨c, ?_⟩
    by_cases d : hereF tape len (nameF tape len (ps0 f11 f12)).1 = 61
    · have e : takeR tape len f11 f12 = stepsW tape len 1 false (advF (nameF tape len (ps0 f11 f12))) := by unfold takeR; rw [if_pos ⟨c, d⟩]
      rw [e] at h
      exact Or.inl ⟨d, h⟩
    · have e : takeR tape len f11 f12 = (true, nameF tape len (ps0 f11 f12)) := by unfold takeR; rw [if_neg (fun z => d z.2), decide_eq_true c]
      rw [e] at h
      have e2 : wR len (true, nameF tape len (ps0 f11 f12)) = wholeR len (nameF tape len (ps0 f11 f12)) := by unfold wR; rw [if_pos rfl]
      rw [e2] at h
      unfold wholeR at h
      split at h
      · rename_i g; exact Or.inr g.1
      · cases h
  · have e : takeR tape len f11 f12 = (false, nameF tape len (ps0 f11 f12)) := by unfold takeR; rw [if_neg (fun z => c z.1), decide_eq_false c]
    rw [e] at h
    have e2 : wR len (false, nameF tape len (ps0 f11 f12)) = (false, nameF tape len (ps0 f11 f12)) := by unfold wR; rw [if_neg (fun z => by cases z)]
    rw [e2] at h; cases h
theorem nameB_lt {tape : Nat → Int} {len f11 f12 : Int} (h : nameB tape len (ps0 f11 f12)) : namS (clip tape len) 0 (takeE tape len f11 f12) ∧ (nameF tape len (ps0 f11 f12)).2.2.2.2 = 0 := by
  have a1 : (aR tape len (ps0 f11 f12)).1 = true := decide_eq_true h
  obtain ⟨b1, b2, b3⟩ := aR_rd (Int.le_refl _) a1
  refine ⟨b1, ?_⟩
  have : (nameF tape len (ps0 f11 f12)).2 = (ps0 f11 f12).2 := b3
  rw [this]; rfl
theorem all_take {m pool tape : Nat → Int} {B T a f11 f12 : Int} {len : Nat} (h : All m pool B T) (hP : poolOk pool) (hb : bytesOk tape) (hl : len ≤ 120) (h11 : 0 ≤ f11 ∧ f11 ≤ 99999) (ho : openP m a) (hB : B ≤ 1900000000) :
    Txt m (takeF m pool tape a len (takeE tape len f11 f12) (takeR tape len f11 f12)).2.1 pool (takeF m pool tape a len (takeE tape len f11 f12) (takeR tape len f11 f12)).2.2 (B + 1) T := by
  obtain ⟨e1, e2, e3⟩ := nameF_e (tape := tape) (f12 := f12) (show (0 : Int) ≤ (len : Int) by omega) h11
  have k0 := h.1.1.1.2.1
  have k1 := h.1.1.1.2.2.1
  have k3 := h.1.1.1.2.2.2.2.1
  have g8 := h.1.1.2.1
  have q8 := h.2.2.2
  have same : Txt m m pool pool (B + 1) T := ⟨h.up (by omega) (Int.le_refl _), hP, fun _ _ => rfl, Int.le_refl _⟩
  have hr : ∀ q, InR (tape q) := fun q => by have := hb q; exact ⟨by omega, by omega⟩
  unfold takeF
  by_cases w : (wR len (takeR tape len f11 f12)).1 = true
  · rw [if_pos w]
    by_cases c9 : m 1 = 90
    · rw [if_pos c9]; exact same
    · rw [if_neg c9]
      by_cases ch : 0 ≤ hbL m tape 0 (takeE tape len f11 f12) (m 1).toNat 0
      · rw [if_pos ch]; exact same
      · rw [if_neg ch]
        obtain ⟨n1, n2⟩ := takeR_nm w
        obtain ⟨⟨s1, s2, s3, s4⟩, s5⟩ := nameB_lt (f11 := f11) (f12 := f12) n1
        have hlet : ∀ j, 0 ≤ j → j < takeE tape len f11 f12 → isLt (tape j) := fun j x y => by
          have := s3 j x y
          unfold clip at this
          rw [if_pos (by omega)] at this
          exact this
        by_cases ce : takeE tape len f11 f12 = len
        · rw [if_pos ce]
          show Txt m (takesM m tape (m 1).toNat a 0 (takeE tape len f11 f12) ((0 : Nat) : Int) ((0 : Nat) : Int)) pool pool (B + 1) T
          obtain ⟨i1, i2⟩ := inv_take (rc := tape) h.1.1 (N := (m 1).toNat) (fr := 0) (to := takeE tape len f11 f12) (o := a) (P := 0) (E := 0) (by omega) (by omega) ⟨ho.1, by omega⟩ ⟨by omega, by omega⟩ (by omega) hr hlet ⟨Nat.le_refl _, by omega, Or.inl ⟨rfl, by omega⟩⟩ (by omega)
          obtain ⟨j1, j2⟩ := keep_ev h.1 h.2.1 i1 i2
          have f8 := i2.1 8 (by unfold far; omega)
          have f7 := i2.1 7 (by unfold far; omega)
          have f3 := i2.1 3 (by unfold far; omega)
          have f1 := i2.2.1
          exact ⟨⟨j1, j2, by have := h.2.2.1; omega, by omega, by rw [f8]; exact q8.2⟩, hP, fun _ _ => rfl, by omega⟩
        · rw [if_neg ce]
          show Txt m (takesM (updI m 8 (m 8 + (len - (takeE tape len f11 f12 + 1) : Nat) + 1)) tape (m 1).toNat a 0 (takeE tape len f11 f12) (m 8) (m 8 + len - takeE tape len f11 f12 - 1)) pool (pooledP pool tape (m 8).toNat (takeE tape len f11 f12 + 1) len) (B + 1) T
          have n3 : (wR len (stepsW tape len 1 false (advF (nameF tape len (ps0 f11 f12))))).1 = true := by
            rcases n2 with n2 | n2
            · exact n2.2
            · omega
          have ea : (advF (nameF tape len (ps0 f11 f12))).1 = (nameF tape len (ps0 f11 f12)).1 + 1 := rfl
          obtain ⟨r1, r2⟩ := readC (q := advF (nameF tape len (ps0 f11 f12))) (by omega) s5 n3
          rw [show (advF (nameF tape len (ps0 f11 f12))).1.toNat = takeE tape len f11 f12 + 1 by omega, Int.toNat_natCast] at r1
          have r3 := readG (w := 1) (it := false) (q := advF (nameF tape len (ps0 f11 f12))) (by decide) (by omega) n3
          rw [show (advF (nameF tape len (ps0 f11 f12))).1.toNat = takeE tape len f11 f12 + 1 by omega, Int.toNat_natCast] at r3
          have pc := pooledC (pool := pool) (p := (m 8).toNat) (by omega) r1
          have low : ∀ q : Nat, (q : Int) < m 8 → pooledP pool tape (m 8).toNat (takeE tape len f11 f12 + 1) len q = pool q := fun q hq => pooledP_low (by omega)
          obtain ⟨g1, g2⟩ := h.grow (b := m 8 + (len - (takeE tape len f11 f12 + 1) : Nat) + 1) (pool' := pooledP pool tape (m 8).toNat (takeE tape len f11 f12 + 1) len) (by omega) low
          have u : ∀ q, ¬ q = 8 → updI m 8 (m 8 + (len - (takeE tape len f11 f12 + 1) : Nat) + 1) q = m q := fun q z => updI_n z
          have ep : m 8 = (((m 8).toNat : Nat) : Int) := by omega
          have ee : m 8 + (len : Int) - (takeE tape len f11 f12 : Int) - 1 = (((m 8).toNat + (len - (takeE tape len f11 f12 + 1)) : Nat) : Int) := by omega
          obtain ⟨i1, i2⟩ := inv_take (rc := tape) g1.1 (N := (m 1).toNat) (fr := 0) (to := takeE tape len f11 f12) (o := a) (P := (m 8).toNat) (E := (m 8).toNat + (len - (takeE tape len f11 f12 + 1))) (by rw [u 1 (by omega)]; omega) (by omega) ⟨ho.1, by rw [u 0 (by omega)]; omega⟩ ⟨by omega, by omega⟩ (by omega) hr hlet ⟨by omega, by omega, Or.inr ⟨by rw [updI_s]; omega, pc⟩⟩ (by omega)
          obtain ⟨j1, j2⟩ := keep_ev g1 g2 i1 i2
          rw [ee]
          have em : takesM (updI m 8 (m 8 + (len - (takeE tape len f11 f12 + 1) : Nat) + 1)) tape (m 1).toNat a 0 (takeE tape len f11 f12) (m 8) (((m 8).toNat + (len - (takeE tape len f11 f12 + 1)) : Nat) : Int) = takesM (updI m 8 (m 8 + (len - (takeE tape len f11 f12 + 1) : Nat) + 1)) tape (m 1).toNat a 0 (takeE tape len f11 f12) (((m 8).toNat : Nat) : Int) (((m 8).toNat + (len - (takeE tape len f11 f12 + 1)) : Nat) : Int) := by rw [← ep]
          rw [em]
          have f8 := i2.1 8 (by unfold far; omega)
          have f7 := i2.1 7 (by unfold far; omega)
          have f3 := i2.1 3 (by unfold far; omega)
          have f1 : takesM (updI m 8 (m 8 + (len - (takeE tape len f11 f12 + 1) : Nat) + 1)) tape (m 1).toNat a 0 (takeE tape len f11 f12) (((m 8).toNat : Nat) : Int) (((m 8).toNat + (len - (takeE tape len f11 f12 + 1)) : Nat) : Int) 1 = (((m 1).toNat : Nat) : Int) + 1 := takesM_1
          rw [updI_s] at f8
          rw [u 7 (by omega)] at f7
          rw [u 3 (by omega)] at f3
          exact ⟨⟨j1, j2, by have := h.2.2.1; omega, by omega, by
            rw [f8, show (m 8 + ((len - (takeE tape len f11 f12 + 1) : Nat) : Int) + 1).toNat = (m 8).toNat + (len - (takeE tape len f11 f12 + 1)) + 1 by omega]
            exact pooledG (by omega) (r3.up (by decide)) q8.2⟩, pooledP_ok hP hb, low, by omega⟩
  · rw [if_neg w]; exact same
theorem all_rename {m pool tape : Nat → Int} {B T f11 f12 : Int} {len : Nat} {t : Nat} (h : All m pool B T) (hb : bytesOk tape) (h11 : 0 ≤ f11 ∧ f11 ≤ 99999) (ht : (t : Int) < m 1) : All (renF m tape t len f11 f12).2 pool B T ∧ (renF m tape t len f11 f12).2 8 = m 8 := by
  unfold renF
  by_cases w : (renR tape len f11 f12).1 = true
  · rw [if_pos w]
    by_cases ch : 0 ≤ hbL m tape 0 ((len : Int)).toNat (m 1).toNat 0
    · rw [if_pos ch]; exact ⟨h, rfl⟩
    · rw [if_neg ch, Int.toNat_natCast]
      have l7 := renR_7 w
      have n1 : nameB tape len (ps0 f11 f12) ∧ (nameF tape len (ps0 f11 f12)).1 = len := by
        by_cases c : nameB tape len (ps0 f11 f12)
        · refine ⟨c, ?_⟩
          have e : renR tape len f11 f12 = wholeR len (nameF tape len (ps0 f11 f12)) := by unfold renR wR; rw [if_pos (decide_eq_true c)]
          rw [e] at w
          unfold wholeR at w
          split at w
          · rename_i g; exact g.1
          · cases w
        · have e : renR tape len f11 f12 = (decide (nameB tape len (ps0 f11 f12)), nameF tape len (ps0 f11 f12)) := by
            unfold renR wR
            rw [if_neg (by show ¬ (decide _ = true); rw [decide_eq_false c]; decide)]
          rw [e, decide_eq_false c] at w
          cases w
      obtain ⟨⟨s1, s2, s3, s4⟩, s5⟩ := nameB_lt (f11 := f11) (f12 := f12) n1.1
      have eE : takeE tape len f11 f12 = len := by unfold takeE; rw [n1.2]; omega
      rw [eE] at s1 s3
      have k0 := h.1.1.1.2.1
      have k1 := h.1.1.1.2.2.1
      have k3 := h.1.1.1.2.2.2.2.1
      obtain ⟨⟨⟨hM, q0, q1, q2, q3, q4, q5, q7⟩, g2, g3, g4, g5, g6⟩, sc, nc, ns⟩ := id h.1
      have e : ∀ q, ¬ q = 261 + 14 * t → ¬ (265 + 14 * t ≤ q ∧ q < 265 + 14 * t + len) → namesM m tape t 0 len q = m q := fun q x y => by rw [namesM_at, if_neg (by omega), updI_n x]
      have eL : namesM m tape t 0 len (261 + 14 * t) = len := by rw [namesM_at, if_neg (by omega), updI_s]; omega
      have eN : ∀ k, k < len → namesM m tape t 0 len (265 + 14 * t + k) = tape k := fun k hk => by rw [namesM_at, if_pos (by omega)]; congr 1; omega
      have hlet : ∀ j, j < len → isLt (tape j) := fun j y => by
        have := s3 j (by omega) y
        unfold clip at this
        rw [if_pos (by omega)] at this
        exact this
      have hin : ∀ q, InR (namesM m tape t 0 len q) := by
        intro q
        rw [namesM_at]
        split
        · have := hb (0 + (q - (265 + 14 * t))); exact ⟨by omega, by omega⟩
        · exact updM_in hM ⟨by omega, by omega⟩ q
      have cc : cnt (clsB (namesM m tape t 0 len)) (m 1).toNat = cnt (clsB m) (m 1).toNat := cnt_congr _ (fun q hq => by unfold clsB; rw [e _ (by omega) (by omega)])
      have hInv : Inv (namesM m tape t 0 len) pool B := by
        refine ⟨⟨hin, ?_⟩, ?_⟩
        · rw [e 0 (by omega) (by omega), e 1 (by omega) (by omega), e 2 (by omega) (by omega), e 3 (by omega) (by omega), e 4 (by omega) (by omega), e 5 (by omega) (by omega)]
          refine ⟨q0, q1, q2, q3, q4, q5, fun u hu => ?_⟩
          by_cases c : u = t
          · subst c; rw [eL]; omega
          · rw [e _ (by omega) (by omega)]; exact q7 u hu
        · rw [e 0 (by omega) (by omega), e 1 (by omega) (by omega), e 2 (by omega) (by omega), e 4 (by omega) (by omega), e 5 (by omega) (by omega), e 6 (by omega) (by omega), e 8 (by omega) (by omega), cc]
          refine ⟨g2, fun u hu => ?_, g4, g5, fun u j hu hj => ?_⟩
          · have z := g3 u hu
            unfold thOk at z ⊢
            rw [e (258 + 14 * u) (by omega) (by omega), e (259 + 14 * u) (by omega) (by omega), e (260 + 14 * u) (by omega) (by omega), e (262 + 14 * u) (by omega) (by omega), e (263 + 14 * u) (by omega) (by omega), e 0 (by omega) (by omega), e 6 (by omega) (by omega), e 8 (by omega) (by omega)]
            by_cases c : u = t
            · subst c; rw [eL]; exact ⟨z.1, z.2.1, ⟨by omega, z.2.2.1.2⟩, z.2.2.2⟩
            · rw [e (261 + 14 * u) (by omega) (by omega)]; exact z
          · by_cases c : u = t ∧ j < len
            · obtain ⟨rfl, c⟩ := c
              rw [eN j c]
              have := hlet j c
              unfold isLt at this; omega
            · rw [e _ (by omega) (by omega)]; exact g6 u j hu hj
      have es : Es m (namesM m tape t 0 len) := by
        refine ⟨fun q hq => e q ?_ ?_, fun c hc => Or.inl (e _ (by omega) (by omega)), ?_, fun z u hu => ?_, fun u hu => Or.inl (e _ (by omega) (by omega))⟩
        · have := fat_far hq; unfold far at this; omega
        · have := fat_far hq; unfold far at this; omega
        · rw [e 1 (by omega) (by omega), e 2 (by omega) (by omega), e 6 (by omega) (by omega)]; omega
        · rw [e 1 (by omega) (by omega)] at hu
          rw [e _ (by omega) (by omega)]; exact z u hu
      have hsc : ScI (namesM m tape t 0 len) := by
        obtain ⟨x1, x2, x3⟩ := sc
        refine ⟨by rw [e _ (by omega) (by omega)]; exact x1, by rw [e _ (by omega) (by omega)]; exact x2, fun c hc => ?_⟩
        rw [e 0 (by omega) (by omega)] at hc
        obtain ⟨a, b⟩ := x3 c hc
        rw [e (18 + 4 * c) (by omega) (by omega), e (19 + 4 * c) (by omega) (by omega), e (20 + 4 * c) (by omega) (by omega), e 6 (by omega) (by omega)]
        refine ⟨a, fun g => ?_⟩
        obtain ⟨b1, b2, b3⟩ := b g
        rw [e (18 + 4 * (m (19 + 4 * c)).toNat) (by omega) (by omega)]
        exact ⟨b1, b2, b3⟩
      exact ⟨h.es hInv hsc es, e 8 (by omega) (by omega)⟩
  · rw [if_neg w]; exact ⟨h, rfl⟩
theorem all_shut {m pool : Nat → Int} {B T t : Int} (h : All m pool B T) (hP : poolOk pool) (hB : B ≤ 1900000000) (hd : openP m t) : ∃ m', shutsR pool (-1) 61 (updI m 5 0) t m' ∧ All m' pool B T ∧ m' 8 = m 8 := by
  have h5 := h.low (k := 5) (v := 0) (by decide) (Or.inr ⟨rfl, rfl⟩)
  have e : ∀ q, ¬ q = 5 → updI m 5 0 q = m q := fun q a => updI_n a
  obtain ⟨m', a, b, c, d, -⟩ := shuts_ex hP (sink := -1) (by decide) 61 _ t.toNat B h5.1.1 h5.1.2.1 h5.1.2.2.1 hB (by omega) (by rw [e 0 (by omega)]; have := hd.1; have := hd.2.1; omega) (fun c _ hc => h5.1.2.2.2 c hc)
  rw [show ((t.toNat : Nat) : Int) = t by have := hd.1; omega] at a
  exact ⟨m', a, h5.es b c d, (d.1 8 (Or.inr (Or.inr (Or.inr (Or.inl rfl))))).trans (e 8 (by omega))⟩
theorem all_move {m pool : Nat → Int} {B T t s : Int} (h : All m pool B T) (hB : B ≤ 1900000000) (hd : moveDo m t s) : All (movesM m t.toNat s) pool (B + 1) T ∧ movesM m t.toNat s 8 = m 8 := by
  obtain ⟨d1, d2, d3⟩ := hd
  obtain ⟨i1, i2⟩ := inv_move h.1.1 (t := t.toNat) (s := s) (by omega) ⟨d3.1, by have := d3.2.1; omega⟩ (by omega)
  have k0 := h.1.1.1.2.1
  exact ⟨h.es i1 (i2.sc h.1.2.1 k0.2) i2.es, i2.1 8 (by unfold far; omega)⟩
/-! a TASK comes -/
theorem newTask_at {m : Nat → Int} {a b : Int} {len T : Nat} {C : Nat} (hT : m 3 = (T : Int)) (hC : m 0 = (C : Int)) (hC2 : C ≤ 59) (q : Nat) : newTaskM m a b len q =
    if q = 1620 + 72 * T then m 0 else if q = 1619 + 72 * T then 1 else if q = 1617 + 72 * T then m 8 + len else if q = 1616 + 72 * T then m 8 else if q = 1611 + 72 * T then m 8 else if q = 1609 + 72 * T then b else if q = 1608 + 72 * T then m 0 else
    if 1608 + 72 * T ≤ q ∧ q < 1680 + 72 * T then 0 else if q = 3 then m 3 + 1 else if q = 8 then m 8 + len + 1 else if q = 0 then C + 1 else if q = 6 then m 6 + 1 else if q = 18 + 4 * C then 0 else if q = 19 + 4 * C then a else if q = 20 + 4 * C then m 6 + 1 else if q = 21 + 4 * C then m 3 else m q := by
  unfold newTaskM
  rw [show (m 3).toNat = T by omega, show (m 0).toNat = C by omega]
  by_cases c1 : q = 1620 + 72 * T
  · rw [if_pos c1, c1, updI_s]
  rw [if_neg c1, updI_n c1]
  by_cases c2 : q = 1619 + 72 * T
  · rw [if_pos c2, c2, updI_s]
  rw [if_neg c2, updI_n c2]
  by_cases c3 : q = 1617 + 72 * T
  · rw [if_pos c3, c3, updI_s]
  rw [if_neg c3, updI_n c3]
  by_cases c4 : q = 1616 + 72 * T
  · rw [if_pos c4, c4, updI_s]
  rw [if_neg c4, updI_n c4]
  by_cases c5 : q = 1611 + 72 * T
  · rw [if_pos c5, c5, updI_s]
  rw [if_neg c5, updI_n c5]
  by_cases c6 : q = 1609 + 72 * T
  · rw [if_pos c6, c6, updI_s]
  rw [if_neg c6, updI_n c6]
  by_cases c7 : q = 1608 + 72 * T
  · rw [if_pos c7, c7, updI_s]
  rw [if_neg c7, updI_n c7]
  obtain ⟨o0, o1, o2, o3, o4, o6, oe⟩ := opensM_at (m := updI (zrF (updI m 3 (m 3 + 1)) (1608 + 72 * T) 72) 8 (m 8 + (len : Nat) + 1)) (C := C) (p := a) (t := m 3)
  have e6 : updI (zrF (updI m 3 (m 3 + 1)) (1608 + 72 * T) 72) 8 (m 8 + (len : Nat) + 1) 6 = m 6 := by
    rw [updI_n (by decide)]; unfold zrF; rw [if_neg (by omega), updI_n (by decide)]
  rw [e6] at o3 o6
  by_cases c8 : 1608 + 72 * T ≤ q ∧ q < 1680 + 72 * T
  · rw [if_pos c8, oe q (by omega) (by omega) (by omega), updI_n (by omega)]
    unfold zrF; rw [if_pos (by omega)]
  rw [if_neg c8]
  by_cases d3 : q = 3
  · rw [if_pos d3, d3, oe 3 (by omega) (by omega) (by omega), updI_n (by decide)]
    unfold zrF; rw [if_neg (by omega), updI_s]
  rw [if_neg d3]
  by_cases d8 : q = 8
  · rw [if_pos d8, d8, oe 8 (by omega) (by omega) (by omega), updI_s]
  rw [if_neg d8]
  by_cases d0 : q = 0
  · rw [if_pos d0, d0, o0]
  rw [if_neg d0]
  by_cases d6 : q = 6
  · rw [if_pos d6, d6, o6]
  rw [if_neg d6]
  by_cases f1 : q = 18 + 4 * C
  · rw [if_pos f1, f1, o1]
  rw [if_neg f1]
  by_cases f2 : q = 19 + 4 * C
  · rw [if_pos f2, f2, o2]
  rw [if_neg f2]
  by_cases f3 : q = 20 + 4 * C
  · rw [if_pos f3, f3, o3]
  rw [if_neg f3]
  by_cases f4 : q = 21 + 4 * C
  · rw [if_pos f4, f4, o4]
  rw [if_neg f4, oe q d0 d6 (by omega), updI_n d8]
  unfold zrF; rw [if_neg (by omega), updI_n d3]
theorem all_task {m pool tape : Nat → Int} {B T a b f11 f12 : Int} {len : Nat} (h : All m pool B T) (hP : poolOk pool) (hb : bytesOk tape) (hl : len ≤ 120) (h11 : 0 ≤ f11 ∧ f11 ≤ 99999) (hd : taskDo m a b) (hB : B ≤ 1900000000) :
    Txt m (taskF m pool tape a b len f11 f12).2.1 pool (taskF m pool tape a b len f11 f12).2.2 (B + 1) T := by
  have k0 := h.1.1.1.2.1
  have k1 := h.1.1.1.2.2.1
  have k3 := h.1.1.1.2.2.2.2.1
  have g8 := h.1.1.2.1
  have q8 := h.2.2.2
  obtain ⟨p1, p2, p3, p4, p5⟩ := hd
  unfold taskF
  by_cases w : (taskR tape len f11 f12).1 = true
  · rw [if_pos w]
    show Txt m (newTaskM m a b len) pool (pooledP pool tape (m 8).toNat 0 len) (B + 1) T
    obtain ⟨⟨f, r1⟩, r2⟩ := readT (q := ps0 f11 f12) (Int.le_refl _) rfl w
    rw [show (ps0 f11 f12).1.toNat = 0 from rfl, Int.toNat_natCast] at r1
    have r2' : (0 : Int) < len := r2
    have r4 := readG (w := 0) (it := true) (q := ps0 f11 f12) (by decide) (Int.le_refl _) w
    rw [show (ps0 f11 f12).1.toNat = 0 from rfl, Int.toNat_natCast] at r4
    have pt := pooledT (pool := pool) (p := (m 8).toNat) r1
    have low : ∀ q : Nat, (q : Int) < m 8 → pooledP pool tape (m 8).toNat 0 len q = pool q := fun q hq => pooledP_low (by omega)
    obtain ⟨TT, hTT⟩ : ∃ TT : Nat, m 3 = (TT : Int) := ⟨(m 3).toNat, by omega⟩
    obtain ⟨C, hC⟩ : ∃ C : Nat, m 0 = (C : Int) := ⟨(m 0).toNat, by omega⟩
    have C59 : C ≤ 59 := by omega
    have na := newTask_at (a := a) (b := b) (len := len) hTT hC C59
    -- the row without the new scope
    have hm1 : Mid (fun q => if q = 0 ∨ q = 6 ∨ (18 + 4 * C ≤ q ∧ q < 22 + 4 * C) then m q else newTaskM m a b len q) (pooledP pool tape (m 8).toNat 0 len) B := by
      refine h.1.like (fun q => ?_) (fun q hq => ?_) ?_ (Or.inl ?_) ?_ low
      · split
        · exact h.1.1.1.1 q
        · have hq := h.1.1.1.1 q
          have h0 := h.1.1.1.1 0
          have h3 := h.1.1.1.1 3
          rw [na q]
          repeat' split
          all_goals first | exact h.1.1.1.1 q | exact h.1.1.1.1 0 | exact h.1.1.1.1 3 | exact h.1.1.1.1 8 | decide | (constructor <;> omega)
      · split
        · rfl
        · rename_i z
          rw [na q]
          rw [if_neg (by omega), if_neg (by omega), if_neg (by omega), if_neg (by omega), if_neg (by omega), if_neg (by omega), if_neg (by omega), if_neg (by omega), if_neg (by omega), if_neg (by omega), if_neg (by omega), if_neg (by omega), if_neg (by omega), if_neg (by omega), if_neg (by omega), if_neg (by omega)]
      · rw [if_neg (by omega), na 3]
        rw [if_neg (by omega), if_neg (by omega), if_neg (by omega), if_neg (by omega), if_neg (by omega), if_neg (by omega), if_neg (by omega), if_neg (by omega), if_pos rfl]
        omega
      · rw [if_neg (by omega), na 5]
        rw [if_neg (by omega), if_neg (by omega), if_neg (by omega), if_neg (by omega), if_neg (by omega), if_neg (by omega), if_neg (by omega), if_neg (by omega), if_neg (by omega), if_neg (by omega), if_neg (by omega), if_neg (by omega), if_neg (by omega), if_neg (by omega), if_neg (by omega), if_neg (by omega)]
      · rw [if_neg (by omega), na 8]
        rw [if_neg (by omega), if_neg (by omega), if_neg (by omega), if_neg (by omega), if_neg (by omega), if_neg (by omega), if_neg (by omega), if_neg (by omega), if_neg (by omega), if_pos rfl]
        omega
    have he : newTaskM m a b len = opensM (fun q => if q = 0 ∨ q = 6 ∨ (18 + 4 * C ≤ q ∧ q < 22 + 4 * C) then m q else newTaskM m a b len q) C a (m 3) := by
      funext q
      obtain ⟨o0, o1, o2, o3, o4, o6, oe⟩ := opensM_at (m := fun q => if q = 0 ∨ q = 6 ∨ (18 + 4 * C ≤ q ∧ q < 22 + 4 * C) then m q else newTaskM m a b len q) (C := C) (p := a) (t := m 3)
      rw [if_pos (by omega)] at o3 o6
      by_cases d0 : q = 0
      · subst d0; rw [o0, na, if_neg (by omega), if_neg (by omega), if_neg (by omega), if_neg (by omega), if_neg (by omega), if_neg (by omega), if_neg (by omega), if_neg (by omega), if_neg (by omega), if_neg (by omega), if_pos rfl]
      by_cases d6 : q = 6
      · subst d6; rw [o6, na, if_neg (by omega), if_neg (by omega), if_neg (by omega), if_neg (by omega), if_neg (by omega), if_neg (by omega), if_neg (by omega), if_neg (by omega), if_neg (by omega), if_neg (by omega), if_neg (by omega), if_pos rfl]
      by_cases f1 : q = 18 + 4 * C
      · rw [f1, o1, na, if_neg (by omega), if_neg (by omega), if_neg (by omega), if_neg (by omega), if_neg (by omega), if_neg (by omega), if_neg (by omega), if_neg (by omega), if_neg (by omega), if_neg (by omega), if_neg (by omega), if_neg (by omega), if_pos rfl]
      by_cases f2 : q = 19 + 4 * C
      · rw [f2, o2, na, if_neg (by omega), if_neg (by omega), if_neg (by omega), if_neg (by omega), if_neg (by omega), if_neg (by omega), if_neg (by omega), if_neg (by omega), if_neg (by omega), if_neg (by omega), if_neg (by omega), if_neg (by omega), if_neg (by omega), if_pos rfl]
      by_cases f3 : q = 20 + 4 * C
      · rw [f3, o3, na, if_neg (by omega), if_neg (by omega), if_neg (by omega), if_neg (by omega), if_neg (by omega), if_neg (by omega), if_neg (by omega), if_neg (by omega), if_neg (by omega), if_neg (by omega), if_neg (by omega), if_neg (by omega), if_neg (by omega), if_neg (by omega), if_pos rfl]
      by_cases f4 : q = 21 + 4 * C
      · rw [f4, o4, na, if_neg (by omega), if_neg (by omega), if_neg (by omega), if_neg (by omega), if_neg (by omega), if_neg (by omega), if_neg (by omega), if_neg (by omega), if_neg (by omega), if_neg (by omega), if_neg (by omega), if_neg (by omega), if_neg (by omega), if_neg (by omega), if_neg (by omega), if_pos rfl]
      rw [oe q d0 d6 (by omega), if_neg (by omega)]
    have hm2 := mid_opens hm1 (C := C) (p := a.toNat) (t := m 3) (by rw [if_pos (Or.inl rfl)]; exact hC) C59 (by omega) (by rw [if_neg (by omega), na, if_neg (by omega), if_neg (by omega), if_neg (by omega), if_neg (by omega), if_neg (by omega), if_neg (by omega), if_neg (by omega), if_neg (by omega), if_neg (by omega), if_neg (by omega), if_neg (by omega), if_neg (by omega), if_neg (by omega), if_neg (by omega), if_neg (by omega), if_neg (by omega), ← p3.2.2]; congr 1; omega) (h.1.1.1.1 3) (by omega)
    rw [show ((a.toNat : Nat) : Int) = a by omega, ← he] at hm2
    have v0 : newTaskM m a b len 0 = C + 1 := by rw [na, if_neg (by omega), if_neg (by omega), if_neg (by omega), if_neg (by omega), if_neg (by omega), if_neg (by omega), if_neg (by omega), if_neg (by omega), if_neg (by omega), if_neg (by omega), if_pos rfl]
    have v3 : newTaskM m a b len 3 = m 3 + 1 := by rw [na, if_neg (by omega), if_neg (by omega), if_neg (by omega), if_neg (by omega), if_neg (by omega), if_neg (by omega), if_neg (by omega), if_neg (by omega), if_pos rfl]
    have v7 : newTaskM m a b len 7 = m 7 := by rw [na, if_neg (by omega), if_neg (by omega), if_neg (by omega), if_neg (by omega), if_neg (by omega), if_neg (by omega), if_neg (by omega), if_neg (by omega), if_neg (by omega), if_neg (by omega), if_neg (by omega), if_neg (by omega), if_neg (by omega), if_neg (by omega), if_neg (by omega), if_neg (by omega)]
    have v8 : newTaskM m a b len 8 = m 8 + len + 1 := by rw [na, if_neg (by omega), if_neg (by omega), if_neg (by omega), if_neg (by omega), if_neg (by omega), if_neg (by omega), if_neg (by omega), if_neg (by omega), if_neg (by omega), if_pos rfl]
    have v1 : newTaskM m a b len 1 = m 1 := by rw [na, if_neg (by omega), if_neg (by omega), if_neg (by omega), if_neg (by omega), if_neg (by omega), if_neg (by omega), if_neg (by omega), if_neg (by omega), if_neg (by omega), if_neg (by omega), if_neg (by omega), if_neg (by omega), if_neg (by omega), if_neg (by omega), if_neg (by omega), if_neg (by omega)]
    have vz : ∀ k : Nat, k < 72 → ¬ k = 0 → ¬ k = 1 → ¬ k = 3 → ¬ k = 8 → ¬ k = 9 → ¬ k = 11 → ¬ k = 12 → newTaskM m a b len (1608 + k + 72 * TT) = 0 := fun k _ _ _ _ _ _ _ _ => by rw [na, if_neg (by omega), if_neg (by omega), if_neg (by omega), if_neg (by omega), if_neg (by omega), if_neg (by omega), if_neg (by omega), if_pos (by omega)]
    have w8 : newTaskM m a b len (1608 + 72 * TT) = C := by rw [na, if_neg (by omega), if_neg (by omega), if_neg (by omega), if_neg (by omega), if_neg (by omega), if_neg (by omega), if_pos rfl]; exact hC
    have w9 : newTaskM m a b len (1609 + 72 * TT) = b := by rw [na, if_neg (by omega), if_neg (by omega), if_neg (by omega), if_neg (by omega), if_neg (by omega), if_pos rfl]
    have w11 : newTaskM m a b len (1611 + 72 * TT) = (((m 8).toNat : Nat) : Int) := by rw [na, if_neg (by omega), if_neg (by omega), if_neg (by omega), if_neg (by omega), if_pos rfl]; omega
    have w16 : newTaskM m a b len (1616 + 72 * TT) = (((m 8).toNat : Nat) : Int) := by rw [na, if_neg (by omega), if_neg (by omega), if_neg (by omega), if_pos rfl]; omega
    have w17 : newTaskM m a b len (1617 + 72 * TT) = (((m 8).toNat + len : Nat) : Int) := by rw [na, if_neg (by omega), if_neg (by omega), if_pos rfl]; omega
    have w19 : newTaskM m a b len (1619 + 72 * TT) = 1 := by rw [na, if_neg (by omega), if_pos rfl]
    have w20 : newTaskM m a b len (1620 + 72 * TT) = C := by rw [na, if_pos rfl]; exact hC
    have hT2 : TkM (newTaskM m a b len) (pooledP pool tape (m 8).toNat 0 len) 99 := by
      refine h.2.1.like k3.2 (by omega) k0.2 (by omega) (by omega) (fun c _ hc => by rw [na, if_neg (by omega), if_neg (by omega), if_neg (by omega), if_neg (by omega), if_neg (by omega), if_neg (by omega), if_neg (by omega), if_neg (by omega), if_neg (by omega), if_neg (by omega), if_neg (by omega), if_neg (by omega), if_neg (by omega), if_neg (by omega), if_neg (by omega), if_neg (by omega)]) low (fun u hu => ?_)
      rw [v3] at hu
      by_cases c : u = TT
      · subst c
        have t7 := h.2.1.1
        refine Or.inr ⟨⟨by rw [w9]; exact p2, by rw [vz 2 (by omega) (by omega) (by omega) (by omega) (by omega) (by omega) (by omega) (by omega)]; decide, Or.inl (vz 6 (by omega) (by omega) (by omega) (by omega) (by omega) (by omega) (by omega) (by omega)), ⟨by rw [vz 4 (by omega) (by omega) (by omega) (by omega) (by omega) (by omega) (by omega) (by omega), v7]; exact ⟨Int.le_refl _, t7⟩, by rw [vz 5 (by omega) (by omega) (by omega) (by omega) (by omega) (by omega) (by omega) (by omega), v7]; exact ⟨Int.le_refl _, t7⟩⟩, by rw [vz 7 (by omega) (by omega) (by omega) (by omega) (by omega) (by omega) (by omega) (by omega)]; decide, by rw [w8, w20], ⟨1, w19, ⟨by decide, by decide⟩, fun k hk => ?_, fun k hk => by omega⟩, ⟨(m 8).toNat, w11, by omega⟩, (m 8).toNat, (m 8).toNat + len, w16, w17, by rw [v8]; omega, by omega, by omega, f, pt⟩, ?_⟩
        · obtain rfl : k = 0 := by omega
          rw [Nat.add_zero, w20, v0]; omega
        · intro _
          exact ⟨0, (m 8).toNat, (m 8).toNat + len, (m 8).toNat, w19, w16, w17, w11, Nat.le_refl _, by rw [vz 7 (by omega) (by omega) (by omega) (by omega) (by omega) (by omega) (by omega) (by omega)]; omega, f, pt⟩
      · exact Or.inl ⟨by omega, fun q x y z => by rw [na, if_neg (by omega), if_neg (by omega), if_neg (by omega), if_neg (by omega), if_neg (by omega), if_neg (by omega), if_neg (by omega), if_neg (by omega), if_neg (by omega), if_neg (by omega), if_neg (by omega), if_neg (by omega), if_neg (by omega), if_neg (by omega), if_neg (by omega), if_neg (by omega)], Or.inl (by rw [na, if_neg (by omega), if_neg (by omega), if_neg (by omega), if_neg (by omega), if_neg (by omega), if_neg (by omega), if_neg (by omega), if_neg (by omega), if_neg (by omega), if_neg (by omega), if_neg (by omega), if_neg (by omega), if_neg (by omega), if_neg (by omega), if_neg (by omega), if_neg (by omega)])⟩
    exact ⟨⟨hm2, hT2, by have := h.2.2.1; omega, by omega, by
      rw [v8, show (m 8 + (len : Int) + 1).toNat = (m 8).toNat + (len - 0) + 1 by omega]
      exact pooledG (Nat.zero_le _) (r4.up (by decide)) q8.2⟩, pooledP_ok hP hb, low, by omega⟩
  · rw [if_neg w]
    exact ⟨h.up (by omega) (Int.le_refl _), hP, fun _ _ => rfl, Int.le_refl _⟩
