theorem all_task {m pool tape : Nat → Int} {B T a b f11 f12 : Int} {len : Nat} (h : All m pool B T) (hP : poolOk pool) (hb : bytesOk tape) (hl : len ≤ 120) (h11 : 0 ≤ f11 ∧ f11 ≤ 99999) (hd : taskDo m a b) (hB : B ≤ 1900000000) :
    Txt m (taskF m pool tape a b len f11 f12).2.1 pool (taskF m pool tape a b len f11 f12).2.2 (B + 1) T := by
  have k0 := h.1.1.1.2.1
  have k1 := h.1.1.1.2.2.1
  have k3 := h.1.1.1.2.2.2.2.1
  have g8 := h.1.1.2.1
  have q8 := h.2.2.2
  obtain ⟨p1, p2, p3, p4, p5⟩ := hd
  unfold taskF
  by_cases w : (taskR tape len f11 f12).1 = true
  · rw [if_pos w]
    show Txt m (newTaskM m a b len) pool (pooledP pool tape (m 8).toNat 0 len) (B + 1) T
    obtain ⟨⟨f, r1⟩, r2⟩ := readT (q := ps0 f11 f12) (Int.le_refl _) rfl w
    rw [show (ps0 f11 f12).1.toNat = 0 from rfl, Int.toNat_natCast] at r1
    have r2' : (0 : Int) < len := r2
    have pt := pooledT (pool := pool) (p := (m 8).toNat) r1
    have low : ∀ q : Nat, (q : Int) < m 8 → pooledP pool tape (m 8).toNat 0 len q = pool q := fun q hq => pooledP_low (by omega)
    obtain ⟨TT, hTT⟩ : ∃ TT : Nat, m 3 = (TT : Int) := ⟨(m 3).toNat, by omega⟩
    obtain ⟨C, hC⟩ : ∃ C : Nat, m 0 = (C : Int) := ⟨(m 0).toNat, by omega⟩
    have C59 : C ≤ 59 := by omega
    have na := newTask_at (a := a) (b := b) (len := len) hTT hC C59
    -- the row without the new scope
    have hm1 : Mid (fun q => if q = 0 ∨ q = 6 ∨ (18 + 4 * C ≤ q ∧ q < 22 + 4 * C) then m q else newTaskM m a b len q) (pooledP pool tape (m 8).toNat 0 len) B := by
      refine h.1.like (fun q => ?_) (fun q hq => ?_) ?_ (Or.inl ?_) ?_ low
      · split
        · exact h.1.1.1.1 q
        · have hq := h.1.1.1.1 q
          have h0 := h.1.1.1.1 0
          have h3 := h.1.1.1.1 3
          rw [na q]
          repeat' split
          all_goals first | exact h.1.1.1.1 q | exact h.1.1.1.1 0 | exact h.1.1.1.1 3 | exact h.1.1.1.1 8 | decide | (constructor <;> omega)
      · split
        · rfl
        · rename_i z
          rw [na q]
          rw [if_neg (by omega), if_neg (by omega), if_neg (by omega), if_neg (by omega), if_neg (by omega), if_neg (by omega), if_neg (by omega), if_neg (by omega), if_neg (by omega), if_neg (by omega), if_neg (by omega), if_neg (by omega), if_neg (by omega), if_neg (by omega), if_neg (by omega), if_neg (by omega)]
      · rw [if_neg (by omega), na 3]
        rw [if_neg (by omega), if_neg (by omega), if_neg (by omega), if_neg (by omega), if_neg (by omega), if_neg (by omega), if_neg (by omega), if_neg (by omega), if_pos rfl]
        omega
      · rw [if_neg (by omega), na 5]
        rw [if_neg (by omega), if_neg (by omega), if_neg (by omega), if_neg (by omega), if_neg (by omega), if_neg (by omega), if_neg (by omega), if_neg (by omega), if_neg (by omega), if_neg (by omega), if_neg (by omega), if_neg (by omega), if_neg (by omega), if_neg (by omega), if_neg (by omega), if_neg (by omega)]
      · rw [if_neg (by omega), na 8]
        rw [if_neg (by omega), if_neg (by omega), if_neg (by omega), if_neg (by omega), if_neg (by omega), if_neg (by omega), if_neg (by omega), if_neg (by omega), if_neg (by omega), if_pos rfl]
        omega
    have he : newTaskM m a b len = opensM (fun q => if q = 0 ∨ q = 6 ∨ (18 + 4 * C ≤ q ∧ q < 22 + 4 * C) then m q else newTaskM m a b len q) C a (m 3) := by
      funext q
      obtain ⟨o0, o1, o2, o3, o4, o6, oe⟩ := opensM_at (m := fun q => if q = 0 ∨ q = 6 ∨ (18 + 4 * C ≤ q ∧ q < 22 + 4 * C) then m q else newTaskM m a b len q) (C := C) (p := a) (t := m 3)
      rw [if_pos (by omega)] at o3 o6
      by_cases d0 : q = 0
      · subst d0; rw [o0, na, if_neg (by omega), if_neg (by omega), if_neg (by omega), if_neg (by omega), if_neg (by omega), if_neg (by omega), if_neg (by omega), if_neg (by omega), if_neg (by omega), if_neg (by omega), if_pos rfl]
      by_cases d6 : q = 6
      · subst d6; rw [o6, na, if_neg (by omega), if_neg (by omega), if_neg (by omega), if_neg (by omega), if_neg (by omega), if_neg (by omega), if_neg (by omega), if_neg (by omega), if_neg (by omega), if_neg (by omega), if_neg (by omega), if_pos rfl]
      by_cases f1 : q = 18 + 4 * C
      · rw [f1, o1, na, if_neg (by omega), if_neg (by omega), if_neg (by omega), if_neg (by omega), if_neg (by omega), if_neg (by omega), if_neg (by omega), if_neg (by omega), if_neg (by omega), if_neg (by omega), if_neg (by omega), if_neg (by omega), if_pos rfl]
      by_cases f2 : q = 19 + 4 * C
      · rw [f2, o2, na, if_neg (by omega), if_neg (by omega), if_neg (by omega), if_neg (by omega), if_neg (by omega), if_neg (by omega), if_neg (by omega), if_neg (by omega), if_neg (by omega), if_neg (by omega), if_neg (by omega), if_neg (by omega), if_neg (by omega), if_pos rfl]
      by_cases f3 : q = 20 + 4 * C
      · rw [f3, o3, na, if_neg (by omega), if_neg (by omega), if_neg (by omega), if_neg (by omega), if_neg (by omega), if_neg (by omega), if_neg (by omega), if_neg (by omega), if_neg (by omega), if_neg (by omega), if_neg (by omega), if_neg (by omega), if_neg (by omega), if_neg (by omega), if_pos rfl]
      by_cases f4 : q = 21 + 4 * C
      · rw [f4, o4, na, if_neg (by omega), if_neg (by omega), if_neg (by omega), if_neg (by omega), if_neg (by omega), if_neg (by omega), if_neg (by omega), if_neg (by omega), if_neg (by omega), if_neg (by omega), if_neg (by omega), if_neg (by omega), if_neg (by omega), if_neg (by omega), if_neg (by omega), if_pos rfl]
      rw [oe q d0 d6 (by omega), if_neg (by omega)]
    have hm2 := mid_opens hm1 (C := C) (p := a.toNat) (t := m 3) (by rw [if_pos (Or.inl rfl)]; exact hC) C59 (by omega) (by rw [if_neg (by omega), na, if_neg (by omega), if_neg (by omega), if_neg (by omega), if_neg (by omega), if_neg (by omega), if_neg (by omega), if_neg (by omega), if_neg (by omega), if_neg (by omega), if_neg (by omega), if_neg (by omega), if_neg (by omega), if_neg (by omega), if_neg (by omega), if_neg (by omega), if_neg (by omega), ← p3.2.2]; congr 1; omega) (h.1.1.1.1 3) (by omega)
    rw [show ((a.toNat : Nat) : Int) = a by omega, ← he] at hm2
    have v0 : newTaskM m a b len 0 = C + 1 := by rw [na, if_neg (by omega), if_neg (by omega), if_neg (by omega), if_neg (by omega), if_neg (by omega), if_neg (by omega), if_neg (by omega), if_neg (by omega), if_neg (by omega), if_neg (by omega), if_pos rfl]
    have v3 : newTaskM m a b len 3 = m 3 + 1 := by rw [na, if_neg (by omega), if_neg (by omega), if_neg (by omega), if_neg (by omega), if_neg (by omega), if_neg (by omega), if_neg (by omega), if_neg (by omega), if_pos rfl]
    have v7 : newTaskM m a b len 7 = m 7 := by rw [na, if_neg (by omega), if_neg (by omega), if_neg (by omega), if_neg (by omega), if_neg (by omega), if_neg (by omega), if_neg (by omega), if_neg (by omega), if_neg (by omega), if_neg (by omega), if_neg (by omega), if_neg (by omega), if_neg (by omega), if_neg (by omega), if_neg (by omega), if_neg (by omega)]
    have v8 : newTaskM m a b len 8 = m 8 + len + 1 := by rw [na, if_neg (by omega), if_neg (by omega), if_neg (by omega), if_neg (by omega), if_neg (by omega), if_neg (by omega), if_neg (by omega), if_neg (by omega), if_neg (by omega), if_pos rfl]
    have v1 : newTaskM m a b len 1 = m 1 := by rw [na, if_neg (by omega), if_neg (by omega), if_neg (by omega), if_neg (by omega), if_neg (by omega), if_neg (by omega), if_neg (by omega), if_neg (by omega), if_neg (by omega), if_neg (by omega), if_neg (by omega), if_neg (by omega), if_neg (by omega), if_neg (by omega), if_neg (by omega), if_neg (by omega)]
    have vz : ∀ k : Nat, k < 72 → ¬ k = 0 → ¬ k = 1 → ¬ k = 3 → ¬ k = 8 → ¬ k = 9 → ¬ k = 11 → ¬ k = 12 → newTaskM m a b len (1608 + k + 72 * TT) = 0 := fun k _ _ _ _ _ _ _ _ => by rw [na, if_neg (by omega), if_neg (by omega), if_neg (by omega), if_neg (by omega), if_neg (by omega), if_neg (by omega), if_neg (by omega), if_pos (by omega)]
    have w8 : newTaskM m a b len (1608 + 72 * TT) = C := by rw [na, if_neg (by omega), if_neg (by omega), if_neg (by omega), if_neg (by omega), if_neg (by omega), if_neg (by omega), if_pos rfl]; exact hC
    have w9 : newTaskM m a b len (1609 + 72 * TT) = b := by rw [na, if_neg (by omega), if_neg (by omega), if_neg (by omega), if_neg (by omega), if_neg (by omega), if_pos rfl]
    have w11 : newTaskM m a b len (1611 + 72 * TT) = (((m 8).toNat : Nat) : Int) := by rw [na, if_neg (by omega), if_neg (by omega), if_neg (by omega), if_neg (by omega), if_pos rfl]; omega
    have w16 : newTaskM m a b len (1616 + 72 * TT) = (((m 8).toNat : Nat) : Int) := by rw [na, if_neg (by omega), if_neg (by omega), if_neg (by omega), if_pos rfl]; omega
    have w17 : newTaskM m a b len (1617 + 72 * TT) = (((m 8).toNat + len : Nat) : Int) := by rw [na, if_neg (by omega), if_neg (by omega), if_pos rfl]; omega
    have w19 : newTaskM m a b len (1619 + 72 * TT) = 1 := by rw [na, if_neg (by omega), if_pos rfl]
    have w20 : newTaskM m a b len (1620 + 72 * TT) = C := by rw [na, if_pos rfl]; exact hC
    have hT2 : TkM (newTaskM m a b len) (pooledP pool tape (m 8).toNat 0 len) 99 := by
      refine h.2.1.like k3.2 (by omega) k0.2 (by omega) (by omega) (fun c _ hc => by rw [na, if_neg (by omega), if_neg (by omega), if_neg (by omega), if_neg (by omega), if_neg (by omega), if_neg (by omega), if_neg (by omega), if_neg (by omega), if_neg (by omega), if_neg (by omega), if_neg (by omega), if_neg (by omega), if_neg (by omega), if_neg (by omega), if_neg (by omega), if_neg (by omega)]) low (fun u hu => ?_)
      rw [v3] at hu
      by_cases c : u = TT
      · subst c
        have t7 := h.2.1.1
        refine Or.inr ⟨⟨by rw [w9]; exact p2, by rw [vz 2 (by omega) (by omega) (by omega) (by omega) (by omega) (by omega) (by omega) (by omega)]; decide, Or.inl (vz 6 (by omega) (by omega) (by omega) (by omega) (by omega) (by omega) (by omega) (by omega)), ⟨by rw [vz 4 (by omega) (by omega) (by omega) (by omega) (by omega) (by omega) (by omega) (by omega), v7]; exact ⟨Int.le_refl _, t7⟩, by rw [vz 5 (by omega) (by omega) (by omega) (by omega) (by omega) (by omega) (by omega) (by omega), v7]; exact ⟨Int.le_refl _, t7⟩⟩, by rw [vz 7 (by omega) (by omega) (by omega) (by omega) (by omega) (by omega) (by omega) (by omega)]; decide, by rw [w8, w20], ⟨1, w19, ⟨by decide, by decide⟩, fun k hk => ?_, fun k hk => by omega⟩, ⟨(m 8).toNat, w11, by omega⟩, (m 8).toNat, (m 8).toNat + len, w16, w17, by rw [v8]; omega, by omega, by omega, f, pt⟩, ?_⟩
        · obtain rfl : k = 0 := by omega
          rw [Nat.add_zero, w20, v0]; omega
        · intro _
          exact ⟨0, (m 8).toNat, (m 8).toNat + len, (m 8).toNat, w19, w16, w17, w11, Nat.le_refl _, by rw [vz 7 (by omega) (by omega) (by omega) (by omega) (by omega) (by omega) (by omega) (by omega)]; omega, f, pt⟩
      · exact Or.inl ⟨by omega, fun q x y z => by rw [na, if_neg (by omega), if_neg (by omega), if_neg (by omega), if_neg (by omega), if_neg (by omega), if_neg (by omega), if_neg (by omega), if_neg (by omega), if_neg (by omega), if_neg (by omega), if_neg (by omega), if_neg (by omega), if_neg (by omega), if_neg (by omega), if_neg (by omega), if_neg (by omega)], Or.inl (by rw [na, if_neg (by omega), if_neg (by omega), if_neg (by omega), if_neg (by omega), if_neg (by omega), if_neg (by omega), if_neg (by omega), if_neg (by omega), if_neg (by omega), if_neg (by omega), if_neg (by omega), if_neg (by omega), if_neg (by omega), if_neg (by omega), if_neg (by omega), if_neg (by omega)])⟩
    exact ⟨⟨hm2, hT2, by have := h.2.2.1; omega, by omega⟩, pooledP_ok hP hb, low, by omega⟩
  · rw [if_neg w]
    exact ⟨h.up (by omega) (Int.le_refl _), hP, fun _ _ => rfl, Int.le_refl _⟩
