theorem all_take {m pool tape : Nat → Int} {B T a f11 f12 : Int} {len : Nat} (h : All m pool B T) (hP : poolOk pool) (hb : bytesOk tape) (hl : len ≤ 120) (h11 : 0 ≤ f11 ∧ f11 ≤ 99999) (ho : openP m a) (hB : B ≤ 1900000000) :
    Txt m (takeF m pool tape a len (takeE tape len f11 f12) (takeR tape len f11 f12)).2.1 pool (takeF m pool tape a len (takeE tape len f11 f12) (takeR tape len f11 f12)).2.2 (B + 1) T := by
  obtain ⟨e1, e2, e3⟩ := nameF_e (tape := tape) (f12 := f12) (show (0 : Int) ≤ (len : Int) by omega) h11
  have k0 := h.1.1.1.2.1
  have k1 := h.1.1.1.2.2.1
  have k3 := h.1.1.1.2.2.2.2.1
  have g8 := h.1.1.2.1
  have q8 := h.2.2.2
  have same : Txt m m pool pool (B + 1) T := ⟨h.up (by omega) (Int.le_refl _), hP, fun _ _ => rfl, Int.le_refl _⟩
  have hr : ∀ q, InR (tape q) := fun q => by have := hb q; exact ⟨by omega, by omega⟩
  unfold takeF
  by_cases w : (wR len (takeR tape len f11 f12)).1 = true
  · rw [if_pos w]
    by_cases c9 : m 1 = 90
    · rw [if_pos c9]; exact same
    · rw [if_neg c9]
      by_cases ch : 0 ≤ hbL m tape 0 (takeE tape len f11 f12) (m 1).toNat 0
      · rw [if_pos ch]; exact same
      · rw [if_neg ch]
        obtain ⟨n1, n2⟩ := takeR_nm w
        obtain ⟨⟨s1, s2, s3, s4⟩, s5⟩ := nameB_lt (f11 := f11) (f12 := f12) n1
        have hlet : ∀ j, 0 ≤ j → j < takeE tape len f11 f12 → isLt (tape j) := fun j x y => by
          have := s3 j x y
          unfold clip at this
          rw [if_pos (by omega)] at this
          exact this
        by_cases ce : takeE tape len f11 f12 = len
        · rw [if_pos ce]
          show Txt m (takesM m tape (m 1).toNat a 0 (takeE tape len f11 f12) ((0 : Nat) : Int) ((0 : Nat) : Int)) pool pool (B + 1) T
          obtain ⟨i1, i2⟩ := inv_take (rc := tape) h.1.1 (N := (m 1).toNat) (fr := 0) (to := takeE tape len f11 f12) (o := a) (P := 0) (E := 0) (by omega) (by omega) ⟨ho.1, by omega⟩ ⟨by omega, by omega⟩ (by omega) hr hlet ⟨Nat.le_refl _, by omega, Or.inl ⟨rfl, by omega⟩⟩ (by omega)
          obtain ⟨j1, j2⟩ := keep_ev h.1 h.2.1 i1 i2
          have f8 := i2.1 8 (by unfold far; omega)
          have f7 := i2.1 7 (by unfold far; omega)
          have f3 := i2.1 3 (by unfold far; omega)
          have f1 := i2.2.1
          exact ⟨⟨j1, j2, by have := h.2.2.1; omega, by omega⟩, hP, fun _ _ => rfl, by omega⟩
        · rw [if_neg ce]
          show Txt m (takesM (updI m 8 (m 8 + (len - (takeE tape len f11 f12 + 1) : Nat) + 1)) tape (m 1).toNat a 0 (takeE tape len f11 f12) (m 8) (m 8 + len - takeE tape len f11 f12 - 1)) pool (pooledP pool tape (m 8).toNat (takeE tape len f11 f12 + 1) len) (B + 1) T
          have n3 : (wR len (stepsW tape len 1 false (advF (nameF tape len (ps0 f11 f12))))).1 = true := by
            rcases n2 with n2 | n2
            · exact n2.2
            · omega
          have ea : (advF (nameF tape len (ps0 f11 f12))).1 = (nameF tape len (ps0 f11 f12)).1 + 1 := rfl
          obtain ⟨r1, r2⟩ := readC (q := advF (nameF tape len (ps0 f11 f12))) (by omega) s5 n3
          rw [show (advF (nameF tape len (ps0 f11 f12))).1.toNat = takeE tape len f11 f12 + 1 by omega, Int.toNat_natCast] at r1
          have pc := pooledC (pool := pool) (p := (m 8).toNat) (by omega) r1
          have low : ∀ q : Nat, (q : Int) < m 8 → pooledP pool tape (m 8).toNat (takeE tape len f11 f12 + 1) len q = pool q := fun q hq => pooledP_low (by omega)
          obtain ⟨g1, g2⟩ := h.grow (b := m 8 + (len - (takeE tape len f11 f12 + 1) : Nat) + 1) (pool' := pooledP pool tape (m 8).toNat (takeE tape len f11 f12 + 1) len) (by omega) low
          have u : ∀ q, ¬ q = 8 → updI m 8 (m 8 + (len - (takeE tape len f11 f12 + 1) : Nat) + 1) q = m q := fun q z => updI_n z
          have ep : m 8 = (((m 8).toNat : Nat) : Int) := by omega
          have ee : m 8 + (len : Int) - (takeE tape len f11 f12 : Int) - 1 = (((m 8).toNat + (len - (takeE tape len f11 f12 + 1)) : Nat) : Int) := by omega
          obtain ⟨i1, i2⟩ := inv_take (rc := tape) g1.1 (N := (m 1).toNat) (fr := 0) (to := takeE tape len f11 f12) (o := a) (P := (m 8).toNat) (E := (m 8).toNat + (len - (takeE tape len f11 f12 + 1))) (by rw [u 1 (by omega)]; omega) (by omega) ⟨ho.1, by rw [u 0 (by omega)]; omega⟩ ⟨by omega, by omega⟩ (by omega) hr hlet ⟨by omega, by omega, Or.inr ⟨by rw [updI_s]; omega, pc⟩⟩ (by omega)
          obtain ⟨j1, j2⟩ := keep_ev g1 g2 i1 i2
          rw [ee]
          have em : takesM (updI m 8 (m 8 + (len - (takeE tape len f11 f12 + 1) : Nat) + 1)) tape (m 1).toNat a 0 (takeE tape len f11 f12) (m 8) (((m 8).toNat + (len - (takeE tape len f11 f12 + 1)) : Nat) : Int) = takesM (updI m 8 (m 8 + (len - (takeE tape len f11 f12 + 1) : Nat) + 1)) tape (m 1).toNat a 0 (takeE tape len f11 f12) (((m 8).toNat : Nat) : Int) (((m 8).toNat + (len - (takeE tape len f11 f12 + 1)) : Nat) : Int) := by rw [← ep]
          rw [em]
          have f8 := i2.1 8 (by unfold far; omega)
          have f7 := i2.1 7 (by unfold far; omega)
          have f3 := i2.1 3 (by unfold far; omega)
          have f1 : takesM (updI m 8 (m 8 + (len - (takeE tape len f11 f12 + 1) : Nat) + 1)) tape (m 1).toNat a 0 (takeE tape len f11 f12) (((m 8).toNat : Nat) : Int) (((m 8).toNat + (len - (takeE tape len f11 f12 + 1)) : Nat) : Int) 1 = (((m 1).toNat : Nat) : Int) + 1 := takesM_1
          rw [updI_s] at f8
          rw [u 7 (by omega)] at f7
          rw [u 3 (by omega)] at f3
          exact ⟨⟨j1, j2, by have := h.2.2.1; omega, by omega⟩, pooledP_ok hP hb, low, by omega⟩
  · rw [if_neg w]; exact same
