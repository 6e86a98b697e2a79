theorem newTask_at {m : Nat → Int} {a b : Int} {len T : Nat} {C : Nat} (hT : m 3 = (T : Int)) (hC : m 0 = (C : Int)) (hC2 : C ≤ 59) (q : Nat) : newTaskM m a b len q =
    if q = 1620 + 72 * T then m 0 else if q = 1619 + 72 * T then 1 else if q = 1617 + 72 * T then m 8 + len else if q = 1616 + 72 * T then m 8 else if q = 1611 + 72 * T then m 8 else if q = 1609 + 72 * T then b else if q = 1608 + 72 * T then m 0 else
    if 1608 + 72 * T ≤ q ∧ q < 1680 + 72 * T then 0 else if q = 3 then m 3 + 1 else if q = 8 then m 8 + len + 1 else if q = 0 then C + 1 else if q = 6 then m 6 + 1 else if q = 18 + 4 * C then 0 else if q = 19 + 4 * C then a else if q = 20 + 4 * C then m 6 + 1 else if q = 21 + 4 * C then m 3 else m q := by
  unfold newTaskM
  rw [show (m 3).toNat = T by omega, show (m 0).toNat = C by omega]
  by_cases c1 : q = 1620 + 72 * T
  · rw [if_pos c1, c1, updI_s]
  rw [if_neg c1, updI_n c1]
  by_cases c2 : q = 1619 + 72 * T
  · rw [if_pos c2, c2, updI_s]
  rw [if_neg c2, updI_n c2]
  by_cases c3 : q = 1617 + 72 * T
  · rw [if_pos c3, c3, updI_s]
  rw [if_neg c3, updI_n c3]
  by_cases c4 : q = 1616 + 72 * T
  · rw [if_pos c4, c4, updI_s]
  rw [if_neg c4, updI_n c4]
  by_cases c5 : q = 1611 + 72 * T
  · rw [if_pos c5, c5, updI_s]
  rw [if_neg c5, updI_n c5]
  by_cases c6 : q = 1609 + 72 * T
  · rw [if_pos c6, c6, updI_s]
  rw [if_neg c6, updI_n c6]
  by_cases c7 : q = 1608 + 72 * T
  · rw [if_pos c7, c7, updI_s]
  rw [if_neg c7, updI_n c7]
  obtain ⟨o0, o1, o2, o3, o4, o6, oe⟩ := opensM_at (m := updI (zrF (updI m 3 (m 3 + 1)) (1608 + 72 * T) 72) 8 (m 8 + (len : Nat) + 1)) (C := C) (p := a) (t := m 3)
  have e6 : updI (zrF (updI m 3 (m 3 + 1)) (1608 + 72 * T) 72) 8 (m 8 + (len : Nat) + 1) 6 = m 6 := by
    rw [updI_n (by decide)]; unfold zrF; rw [if_neg (by omega), updI_n (by decide)]
  rw [e6] at o3 o6
  by_cases c8 : 1608 + 72 * T ≤ q ∧ q < 1680 + 72 * T
  · rw [if_pos c8, oe q (by omega) (by omega) (by omega), updI_n (by omega)]
    unfold zrF; rw [if_pos (by omega)]
  rw [if_neg c8]
  by_cases d3 : q = 3
  · rw [if_pos d3, d3, oe 3 (by omega) (by omega) (by omega), updI_n (by decide)]
    unfold zrF; rw [if_neg (by omega), updI_s]
  rw [if_neg d3]
  by_cases d8 : q = 8
  · rw [if_pos d8, d8, oe 8 (by omega) (by omega) (by omega), updI_s]
  rw [if_neg d8]
  by_cases d0 : q = 0
  · rw [if_pos d0, d0, o0]
  rw [if_neg d0]
  by_cases d6 : q = 6
  · rw [if_pos d6, d6, o6]
  rw [if_neg d6]
  by_cases f1 : q = 18 + 4 * C
  · rw [if_pos f1, f1, o1]
  rw [if_neg f1]
  by_cases f2 : q = 19 + 4 * C
  · rw [if_pos f2, f2, o2]
  rw [if_neg f2]
  by_cases f3 : q = 20 + 4 * C
  · rw [if_pos f3, f3, o3]
  rw [if_neg f3]
  by_cases f4 : q = 21 + 4 * C
  · rw [if_pos f4, f4, o4]
  rw [if_neg f4, oe q d0 d6 (by omega), updI_n d8]
  unfold zrF; rw [if_neg (by omega), updI_n d3]
