section mg_9x
section ORD
variable {P P' : Int → Prop} {st st' : Int → Int} {top top' : Int} {f : Nat → Int} {Z : Nat}
theorem ordE_d (h : ordE P st top f Z) {e0 : Int} (h0 : P e0) : cnt (notB e0 f) Z + 1 = Z ∧ 1 ≤ Z ∧ ordE (fun e => P e ∧ ¬ e = e0) st top (drA e0 f Z) (Z - 1) := by
  obtain ⟨j0, j1, j2⟩ := h.2.2.1 e0 h0
  obtain ⟨x, y⟩ := dr_hi (v := e0) (j0 := j0) j2 (fun j hj g => ordE_i h hj j1 (g.trans j2.symm)) Z j1 (Nat.le_refl _)
  have inj := fun {j k : Nat} hj hk e => ordE_i h (j := j) (k := k) hj hk e
  obtain ⟨a, b, c, d⟩ := h
  have v : ∀ q, q < Z - 1 → drA e0 f Z q = f (if q < j0 then q else q + 1) := fun q hq => by
    rw [y q]
    by_cases g : q < j0
    · rw [if_pos g, if_pos g]
    · rw [if_neg g, if_neg g, if_pos (by omega)]
  refine ⟨x, by omega, fun j hj => ?_, fun j k p q => ?_, fun e he => ?_, fun e he => d e he.1⟩
  · rw [v j hj]
    have s : (if j < j0 then j else j + 1) < Z ∧ ¬ (if j < j0 then j else j + 1) = j0 := by split <;> omega
    exact ⟨a _ s.1, fun g => s.2 (inj s.1 j1 (g.trans j2.symm))⟩
  · rw [v j (by omega), v k q]
    refine b _ _ ?_ ?_
    · by_cases g : k < j0
      · rw [if_pos g, if_pos (by omega)]; exact p
      · rw [if_neg g]; split <;> omega
    · split <;> omega
  · obtain ⟨j, k1, k2⟩ := c e he.1
    have ne : ¬ j = j0 := fun g => he.2 (by rw [← k2, g]; exact j2)
    by_cases g : j < j0
    · exact ⟨j, by omega, by rw [v j (by omega), if_pos g]; exact k2⟩
    · exact ⟨j - 1, by omega, by rw [v _ (by omega), if_neg (by omega), show j - 1 + 1 = j by omega]; exact k2⟩
end ORD
theorem crE_o {m c f : Nat → Int} {Z : Nat} : crE m c f Z ↔ c 10 = Z ∧ (Z : Int) + 1 ≤ m 1 + m 0 ∧ ordE (nodP m) (stampI m) (m 6) f Z := Iff.rfl
section CMP
variable {m m' c c' : Nat → Int} {C C' : Nat → Nat → Int} {nm nm' : Nat → Int64} {g g' : Nat → Option Nat} {S : Nat → Option mO} {pool : Nat → Int}
theorem crT_c (h : crT m c nm) (k1 : m 1 ≤ 90) (h1 : m' 1 = m 1) (hm : ∀ q, 258 ≤ q → q < 1518 → m' q = m q) (hc : ∀ q, 32 ≤ q → q < 302 → c' q = c q) (hn : nm' = nm) : crT m' c' nm' := fun t ht => by
  subst hn
  rw [h1] at ht
  obtain ⟨t1, t2, t3, t4, t5⟩ := h t ht
  rw [hc _ (by omega) (by omega), hc _ (by omega) (by omega), hc _ (by omega) (by omega), hm _ (by omega) (by omega), hm _ (by omega) (by omega), hm _ (by omega) (by omega)]
  exact ⟨t1, t2, t3, t4.trans (nmR_c (hm _ (by omega) (by omega)) t5.1.2 (fun j hj => hm _ (by omega) (by omega))).symm, nmOk_c (hm _ (by omega) (by omega)) (fun j hj => hm _ (by omega) (by omega)) t5⟩
theorem crS_c (h : crS m c) (k0 : m 0 ≤ 60) (h0 : m' 0 = m 0) (hm : ∀ q, 18 ≤ q → q < 258 → m' q = m q) (hc : ∀ q, 304 ≤ q → q < 484 → c' q = c q) : crS m' c' := fun a ha => by
  rw [h0] at ha
  rw [hc _ (by omega) (by omega), hc _ (by omega) (by omega), hc _ (by omega) (by omega), hm _ (by omega) (by omega), hm _ (by omega) (by omega), hm _ (by omega) (by omega)]
  exact h a ha
theorem crK_c (h : crK m c) (h3 : m' 3 = m 3) (hm : ∀ q, 1608 ≤ q → q < 2328 → m' q = m q) (hc : ∀ q, 488 ≤ q → c' q = c q) (k3 : m 3 ≤ 10) : crK m' c' := fun q hq => by
  rw [h3] at hq
  rw [hc _ (by omega), hc _ (by omega), hm _ (by omega) (by omega), hm _ (by omega) (by omega)]
  exact h q hq
theorem crL_c (h : crL m C) (k2 : m 2 ≤ 90) (h2 : m' 2 = m 2) (hm : ∀ q, 10 ≤ q → q < 18 → m' q = m q) (hm2 : ∀ q, 1518 ≤ q → q < 1608 → m' q = m q) (h0 : C' 0 = C 0) (h1 : C' 1 = C 1) : crL m' C' := by
  refine ⟨fun k hk => by rw [h0, hm _ (by omega) (by omega)]; exact h.1 k hk, fun k hk => ?_⟩
  rw [h2] at hk
  rw [h1, hm2 _ (by omega) (by omega)]; exact h.2 k hk
theorem crG_c (h : crG m pool S g) (k1 : m 1 ≤ 90) (h1 : m' 1 = m 1) (hm : ∀ t : Nat, (t : Int) < m 1 → m' (262 + 14 * t) = m (262 + 14 * t) ∧ m' (263 + 14 * t) = m (263 + 14 * t)) (hg : ∀ t, t < 90 → g' (2 * t) = g (2 * t)) : crG m' pool S g' := fun t ht => by
  rw [h1] at ht
  rw [(hm t ht).1, (hm t ht).2, hg t (by omega)]
  exact h t ht
theorem updC_r {C : Nat → Nat → Int} (h : ∀ k q, InR (C k q)) {k : Nat} {f : Nat → Int} (hf : ∀ q, InR (f q)) : ∀ j q, InR (updC C k f j q) := fun j q => by
  by_cases e : j = k
  · subst e; rw [updC_s]; exact hf q
  · rw [updC_n e]; exact h j q
theorem drA_r {v : Int} {f : Nat → Int} (hf : ∀ q, InR (f q)) : ∀ n q, InR (drA v f n q)
  | 0, q => hf q
  | n + 1, q => by
    show InR ((if f n = v then drA v f n else updI (drA v f n) (cnt (notB v f) n).toNat (f n)) q)
    split
    · exact drA_r hf n q
    · exact updI_r (drA_r hf n) (hf n) q
end CMP
section CHG
variable {x : Int} {m pool c : Nat → Int} {S : Nat → Option mO} {C : Nat → Nat → Int} {nm : Nat → Int64} {g : Nat → Option Nat}
end CHG
end mg_9x
