/-! ===== what every call leaves of the rows: the law's own facts go on ===== -/
section N5
variable {G : mG} {l : Launch} {x y n0 : Nat} {h : mH} {f4 : Int} {m m' kpm pool rc : Nat → Int} {zt : Int} {ft : Nat → Int}
theorem RO.nmk (hI : RO x y n0 f4 m kpm pool zt ft h) : ∀ t : Nat, (t : Int) < m 1 → nmOk m t := by
  obtain ⟨f18, pap, rwd, rw, ⟨S, kp, tk, zr, fr, p, e, o, zs, fs, b, fa, c, C, nm, g, hK, ⟨hT, -⟩, -⟩, -⟩ := hI
  exact fun t ht => (hT.1.2.1 t ht).2.2.2.2
theorem entP_nod {N C s e : Nat} (hN : (m 1).toNat = N) (hC : (m 0).toNat = C) (h : entryP m N C s e) : nodP m (e : Int) := by
  unfold entryP at h
  split at h
  · exact Or.inl ⟨e, rfl, by omega, by omega⟩
  · exact Or.inr ⟨e - 100, by omega, by omega, by omega, h.2.2.1⟩
theorem RO.plh (hI : RO x y n0 f4 m kpm pool zt ft h) (hj : JI m) : PLH m (m 1).toNat (m 0).toNat := by
  obtain ⟨B, T, ⟨⟨hInv, hsc, hnc, hns⟩, hTk, -⟩, -, -⟩ := hI.rows
  obtain ⟨f18, pap, rwd, rw, ⟨S, kp, tk, zr, fr, p, e, o, zs, fs, b, fa, c, C, nm, g, hK, ⟨hT, -⟩, -⟩, -⟩ := hI
  obtain ⟨Z, -, -, -, z1, z2, z3⟩ := hT.1.2.2.2.2.2.1
  have m0 := hInv.1.2.1
  have m1 := hInv.1.2.2.1
  refine ⟨fun c hc => ?_, fun t ht => ?_, fun s e e' he he' hs => ?_, fun s e he => ?_, fun t ht h0 => ?_, fun c hc h1 => ?_, by rw [hsc.1]; decide, by omega, by omega⟩
  · by_cases c0 : c = 0
    · subst c0; rw [show 19 + 4 * 0 = 19 from rfl, hsc.1]; decide
    · exact ((hsc.2.2 c (by omega)).2 (by omega)).1.2
  · have := (hInv.2.2.1 t (by omega)).2.1
    exact ⟨this.1, by omega⟩
  · obtain ⟨j, j1, j2⟩ := z2 _ (entP_nod rfl rfl he)
    obtain ⟨k, k1, k2⟩ := z2 _ (entP_nod rfl rfl he')
    rw [stV_I, stV_I, ← j2, ← k2] at hs
    have jk : j = k := by
      by_cases a : j < k
      · have := z1 j k a k1; omega
      · by_cases b : k < j
        · have := z1 k j b j1; omega
        · omega
    subst jk
    omega
  · rw [stV_I]; exact z3 _ (entP_nod rfl rfl he)
  · obtain ⟨a, ha, ha2, ha3⟩ := hj.2.2.1 t (by omega) (by omega)
    rw [ha, show ((a : Int)).toNat = a by omega]
    exact ha3
  · obtain ⟨-, q⟩ := hsc.2.2 c (by omega)
    obtain ⟨p1, -, p3⟩ := q h1
    exact ⟨p1.1, p3⟩
theorem NC.u5 (h : NC m) {v : Int} : NC (updI m 5 v) := fun t ht => by
  rw [updI_n (by omega)] at ht
  rw [updI_n (by omega)]
  exact h t ht
theorem JI.u5 (h : JI m) {v : Int} : JI (updI m 5 v) := h.upd (by unfold jC; omega)
theorem takesM_8 {N fr to : Nat} {o p e v : Int} (h7 : to - fr ≤ 7) (q : Nat) (hq : ¬ q = 8) : takesM (updI m 8 v) rc N o fr to p e q = takesM m rc N o fr to p e q := by
  by_cases c : q < 258 + 14 * N ∨ 272 + 14 * N ≤ q
  · by_cases c1 : q = 1
    · subst c1; rw [takesM_1, takesM_1]
    · by_cases c6 : q = 6
      · subst c6; rw [takesM_6, takesM_6, updI_n (by omega)]
      · rw [takesM_n h7 c1 c6 c, takesM_n h7 c1 c6 c, updI_n hq]
  · obtain ⟨k, rfl⟩ : ∃ k, q = 258 + 14 * N + k := ⟨q - (258 + 14 * N), by omega⟩
    have hk : k < 14 := by omega
    by_cases c7 : 7 ≤ k
    · obtain ⟨j, rfl⟩ : ∃ j, k = 7 + j := ⟨k - 7, by omega⟩
      rw [show 258 + 14 * N + (7 + j) = 265 + 14 * N + j by omega, takesM_nm h7 (by omega), takesM_nm h7 (by omega), updI_n (by omega)]
    · match k, hk, c7 with
      | 0, _, _ => rw [Nat.add_zero, takesM_st, takesM_st]
      | 1, _, _ => rw [show 258 + 14 * N + 1 = 259 + 14 * N by omega, takesM_ow, takesM_ow]
      | 2, _, _ => rw [show 258 + 14 * N + 2 = 260 + 14 * N by omega, takesM_sp, takesM_sp, updI_n (by omega)]
      | 3, _, _ => rw [show 258 + 14 * N + 3 = 261 + 14 * N by omega, takesM_ln, takesM_ln]
      | 4, _, _ => rw [show 258 + 14 * N + 4 = 262 + 14 * N by omega, takesM_p, takesM_p]
      | 5, _, _ => rw [show 258 + 14 * N + 5 = 263 + 14 * N by omega, takesM_e, takesM_e]
      | 6, _, _ => rw [show 258 + 14 * N + 6 = 264 + 14 * N by omega, takesM_pl, takesM_pl]
      | k + 7, h, hc => omega
theorem open_a {s : Nat} (hs : openP m s) : (s : Int) < m 0 ∧ m (18 + 4 * s) = 0 := by
  obtain ⟨h1, h2, h3⟩ := hs
  rw [show ((18 : Int) + 4 * (s : Int)).toNat = 18 + 4 * s by omega] at h3
  exact ⟨by omega, h3⟩
theorem J_taken (h : JI m) {N q E : Nat} {v fr to : Int} (hN : m 1 = (N : Int)) (h9 : N < 90) (h7 : E ≤ 7) (ho : openP m q) (hb : hbL m rc 0 E N 0 < 0) : JI (takesM (updI m 8 v) rc N q 0 E fr to) := by
  obtain ⟨o1, o2⟩ := open_a ho
  have k := J_take (rc := rc) (fr := 0) (to := E) (p := fr) (e := to) h hN h9 (by omega) (Nat.zero_le _) ⟨q, rfl, o1, by omega⟩ hb
  exact k.congr (fun q hq => takesM_8 (by omega) q (by unfold jC at hq; omega))
theorem J_moved (h : JI m) {t s : Nat} (hd : moveDo m t s) : JI (movesM m t s) := by
  obtain ⟨o1, o2⟩ := open_a hd.2.2
  exact J_move h (by have := hd.1; omega) ⟨s, rfl, o1, by omega⟩
theorem J_close (h : JI m) {t : Nat} (hd : closeDo m t) (r : closesR pool (-1) 91 (updI m 5 0) t m') : JI m' := (closes_J 91 _ t m' h.u5 (by rw [updI_n (by omega)]; have := hd.1; omega) r).2.2.2.2
theorem J_shut (h : JI m) (nc : NC m) {s : Int} (r : shutsR pool (-1) 61 (updI m 5 0) s m') : JI m' ∧ NC m' := by
  have k := (shuts_J 61 _ s m' h.u5 nc.u5 r).1
  exact ⟨k.2.2.2.2, k.2.2.2.1⟩
theorem J_newTask (h : JI m) (h3 : 0 ≤ m 3 ∧ m 3 ≤ 10) {a i : Int} {len K : Nat} (hK : m 0 = (K : Int)) (hK6 : K < 60) : JI (newTaskM m a i len) := by
  have e : ∀ q, jC q → updI (zrF (updI m 3 (m 3 + 1)) (1608 + 72 * (m 3).toNat) 72) 8 (m 8 + (len : Nat) + 1) q = m q := fun q hq => by
    unfold jC at hq
    rw [updI_n (by omega)]
    unfold zrF
    rw [if_neg (by omega), updI_n (by omega)]
  have k1 := h.congr (m' := updI (zrF (updI m 3 (m 3 + 1)) (1608 + 72 * (m 3).toNat) 72) 8 (m 8 + (len : Nat) + 1)) e
  have e0 := e 0 (by unfold jC; omega)
  have k2 := J_opens k1 (N := K) (p := a) (t := m 3) (by rw [e0]; exact hK) hK6
  refine k2.congr (fun q hq => ?_)
  unfold jC at hq
  unfold newTaskM
  (repeat rw [updI_n (by omega)])
  rw [hK, show ((K : Int)).toNat = K by omega]
end N5
