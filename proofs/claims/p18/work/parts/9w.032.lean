section mg_a2
section EXI
variable {pool : Nat → Int} {sink : Int} {cl cl' : (Nat → Int) → Nat → (Nat → Int) → Prop} {sh sh' : (Nat → Int) → Int → (Nat → Int) → Prop} {n : Nat}
/-! more is done by less -/
theorem stpR_mo (h : ∀ m t m', cl m t m' → cl' m t m') {m m' : Nat → Int} {p : Nat} {s2 f : Int} (k : stpR pool cl m p s2 f m') : stpR pool cl' m p s2 f m' := by
  obtain ⟨a, b, c, k⟩ := k
  refine ⟨a, b, c, ?_⟩
  rcases k with k | k | k | ⟨k1, k2 | ⟨k2, k3, k4⟩⟩ | k | k | k
  · exact Or.inl k
  · exact Or.inr (Or.inl k)
  · exact Or.inr (Or.inr (Or.inl k))
  · exact Or.inr (Or.inr (Or.inr (Or.inl ⟨k1, Or.inl k2⟩)))
  · exact Or.inr (Or.inr (Or.inr (Or.inl ⟨k1, Or.inr ⟨k2, k3, h _ _ _ k4⟩⟩)))
  · exact Or.inr (Or.inr (Or.inr (Or.inr (Or.inl k))))
  · exact Or.inr (Or.inr (Or.inr (Or.inr (Or.inr (Or.inl k)))))
  · exact Or.inr (Or.inr (Or.inr (Or.inr (Or.inr (Or.inr k)))))
theorem doesR_mo (h : ∀ m t m', cl m t m' → cl' m t m') {m m' : Nat → Int} {p : Nat} {s2 f : Int} (k : doesR pool cl m p s2 f m') : doesR pool cl' m p s2 f m' := by
  rcases k with k | ⟨k1, k2, k3, k4, k5, n, j, k6, k7, k8, k9, k10, k11⟩
  · exact Or.inl (stpR_mo h k)
  · refine Or.inr ⟨k1, k2, k3, k4, k5, n, j, k6, k7, k8, k9, k10, ?_⟩
    rcases k11 with ⟨a, b⟩ | k11
    · exact Or.inl ⟨a, stpR_mo h b⟩
    · exact Or.inr k11
theorem loopR_mo {dr dr' : (Nat → Int) → Nat → Int → Int → (Nat → Int) → Prop} (h : ∀ m p s2 f m', dr m p s2 f m' → dr' m p s2 f m') {t E : Nat} : ∀ (k : Nat) (m : Nat → Int) (p : Nat) (f : Int) (m' : Nat → Int), loopR pool dr t E k m p f m' → loopR pool dr' t E k m p f m'
  | 0, m, p, f, m', k => k
  | n + 1, m, p, f, m', k => by
    rcases k with k | ⟨k1, f1, m1, k2, k3, k4⟩
    · exact Or.inl k
    · refine Or.inr ⟨k1, f1, m1, h _ _ _ _ _ k2, k3, ?_⟩
      rcases k4 with k4 | ⟨k4, k5⟩
      · exact Or.inl k4
      · exact Or.inr ⟨k4, loopR_mo h n _ _ _ _ k5⟩
theorem clI_mo (h : ∀ m t m', cl m t m' → closesR pool sink n m t m') {m m' : Nat → Int} {t : Nat} (k : clI pool sink cl m t m') : closesR pool sink (n + 1) m t m' := by
  obtain ⟨a, b, c | ⟨c, p, E, j, f, m2, d1, d2, d3, d4, d5, d6⟩⟩ := k
  · exact ⟨a, b, Or.inl c⟩
  · exact ⟨a, b, Or.inr ⟨c, p, E, j, f, m2, d1, d2, d3, d4, loopR_mo (fun m p s2 f m' x => doesR_mo h x.1) j _ _ _ _ d5, d6⟩⟩
theorem shLoopR_mo (hc : ∀ m t m', cl m t m' → cl' m t m') (hs : ∀ m s m', sh m s m' → sh' m s m') {s : Int} : ∀ (k : Nat) (m m' : Nat → Int), shLoopR cl sh s k m m' → shLoopR cl' sh' s k m m'
  | 0, m, m', k => k
  | n + 1, m, m', k => by
    obtain ⟨a, b, c | ⟨c, m1, d, e⟩ | ⟨c, m1, d, e⟩⟩ := k
    · exact ⟨a, b, Or.inl c⟩
    · exact ⟨a, b, Or.inr (Or.inl ⟨c, m1, hc _ _ _ d, shLoopR_mo hc hs n _ _ e⟩)⟩
    · exact ⟨a, b, Or.inr (Or.inr ⟨c, m1, hs _ _ _ d, shLoopR_mo hc hs n _ _ e⟩)⟩
theorem shB_mo (hc : ∀ m t m', cl m t m' → closesR pool sink 91 m t m') (hs : ∀ m s m', sh m s m' → shutsR pool sink n m s m') {m m' : Nat → Int} {s : Int} (k : shB cl sh m s m') : shutsR pool sink (n + 1) m s m' := by
  obtain ⟨a, b, c | ⟨c, j, m2, d, e⟩⟩ := k
  · exact ⟨a, b, Or.inl c⟩
  · exact ⟨a, b, Or.inr ⟨c, j, m2, shLoopR_mo hc hs j _ _ d, e⟩⟩
theorem overR_mo (hs : ∀ m s m', sh m s m' → sh' m s m') {t : Nat} : ∀ (k : Nat) (m m' : Nat → Int), overR sh t k m m' → overR sh' t k m m'
  | 0, m, m', k => k
  | n + 1, m, m', k => by
    obtain ⟨a, m1, b, c⟩ := k
    exact ⟨a, m1, hs _ _ _ b, overR_mo hs n _ _ c⟩
theorem isOverR_mo (hs : ∀ m s m', sh m s m' → sh' m s m') {t : Nat} {st : Int} {m m' : Nat → Int} (k : isOverR sh t st m m') : isOverR sh' t st m m' := by
  obtain ⟨a, j, b, c, d⟩ := k
  exact ⟨a, j, b, c, overR_mo hs j _ _ d⟩
theorem turnFinR_mo (hs : ∀ m s m', sh m s m' → sh' m s m') {t E p : Nat} {m m' : Nat → Int} (k : turnFinR sh t E m p m') : turnFinR sh' t E m p m' := by
  obtain ⟨a, b, c | ⟨c, d⟩⟩ := k
  · exact ⟨a, b, Or.inl c⟩
  · exact ⟨a, b, Or.inr ⟨c, isOverR_mo hs d⟩⟩
theorem doesInR_mo (hc : ∀ m t m', cl m t m' → cl' m t m') (hs : ∀ m s m', sh m s m' → sh' m s m') {t p : Nat} {f : Int} {m m' : Nat → Int} (k : doesInR pool cl sh m t p f m') : doesInR pool cl' sh' m t p f m' := by
  obtain ⟨a, b, c, j, d, e, k | ⟨k1, k2, k3⟩ | ⟨k1, k2, k3⟩⟩ := k
  · exact ⟨a, b, c, j, d, e, Or.inl k⟩
  · exact ⟨a, b, c, j, d, e, Or.inr (Or.inl ⟨k1, k2, hs _ _ _ k3⟩)⟩
  · exact ⟨a, b, c, j, d, e, Or.inr (Or.inr ⟨k1, k2, doesR_mo hc k3⟩)⟩
theorem turnLoopI_mo (hc : ∀ m t m', cl m t m' → cl' m t m') (hs : ∀ m s m', sh m s m' → sh' m s m') {t E : Nat} : ∀ (k : Nat) (m : Nat → Int) (p : Nat) (m' : Nat → Int), turnLoopI pool cl sh t E k m p m' → turnLoopR pool cl' sh' t E k m p m'
  | 0, m, p, m', k => ⟨k.1, turnFinR_mo hs k.2⟩
  | n + 1, m, p, m', k => by
    rcases k with ⟨a, b⟩ | ⟨a, f, m1, b, c, d, e⟩
    · exact Or.inl ⟨a, turnFinR_mo hs b⟩
    · refine Or.inr ⟨a, f, m1, doesInR_mo hc hs b.1, c, d, ?_⟩
      rcases e with ⟨e1, e2⟩ | ⟨e1, ⟨e2, e3⟩ | ⟨e2, e3⟩⟩
      · exact Or.inl ⟨e1, isOverR_mo hs e2⟩
      · exact Or.inr ⟨e1, Or.inl ⟨e2, turnFinR_mo hs e3⟩⟩
      · exact Or.inr ⟨e1, Or.inr ⟨e2, turnLoopI_mo hc hs n _ _ _ e3⟩⟩
theorem turnI_mo (hc : ∀ m t m', cl m t m' → cl' m t m') (hs : ∀ m s m', sh m s m' → sh' m s m') {t : Nat} {m m' : Nat → Int} (k : turnI pool cl sh m t m') : turnR pool cl' sh' m t m' := by
  obtain ⟨a, b, c, ⟨d, e⟩ | ⟨d, p, E, j, e1, e2, e3, e4, e5⟩⟩ := k
  · exact ⟨a, b, c, Or.inl ⟨d, isOverR_mo hs e⟩⟩
  · exact ⟨a, b, c, Or.inr ⟨d, p, E, j, e1, e2, e3, e4, turnLoopI_mo hc hs j _ _ _ e5⟩⟩
end EXI
end mg_a2
section mg_a3
/-! ===== the rounds of the class's work, beside the reference's closings ===== -/
noncomputable def WHd (G : mG) (l : Launch) (r k : Nat) (h : mH) (Q : Option Value → mH → Prop) : Prop := ∀ o : Option Value, RUN G l 12 mX3_work 2 [some (.ref r), some (.int (J (k : Int))), o] [] h Q
/-- from here the work comes to where T holds -/
def GOES (G : mG) (l : Launch) (r k : Nat) (h : mH) (T : Nat → mH → Prop) : Prop := ∀ Q, (∀ k' h', T k' h' → WHd G l r k' h' Q) → WHd G l r k h Q
theorem GOES.rf {G : mG} {l : Launch} {r k : Nat} {h : mH} {T : Nat → mH → Prop} (t : T k h) : GOES G l r k h T := fun _ K => K k h t
theorem GOES.bind {G : mG} {l : Launch} {r k : Nat} {h : mH} {T T' : Nat → mH → Prop} (a : GOES G l r k h T) (f : ∀ k' h', T k' h' → GOES G l r k' h' T') : GOES G l r k h T' := fun Q K => a Q (fun k' h' t => f k' h' t Q K)
theorem GOES.mono {G : mG} {l : Launch} {r k : Nat} {h : mH} {T T' : Nat → mH → Prop} (a : GOES G l r k h T) (f : ∀ k' h', T k' h' → T' k' h') : GOES G l r k h T' := fun Q K => a Q (fun k' h' t => K k' h' (f k' h' t))
section GO
variable {G : mG} {l : Launch} {r : Nat} {b z : Int} {f c : Nat → Int} {C : Nat → Nat → Int} {nm : Nat → Int64} {g : Nat → Option Nat} {h : mH}
theorem go_thing (hR : isR h r b z f c C nm g) (hz : 0 < z ∧ z ≤ 160) {k : Nat} (hk : k < 1000000) {t : Nat} (ht : t < 90) (htop : f (z.toNat - 1) = (t : Int)) {R : mH → Prop} (P : RUNM G l 11 mX3_goOnClosing [.ref r, .int (J (t : Int))] h (fun v h' => v = none ∧ R h')) : GOES G l r k h (fun k' h' => k' = k + 1 ∧ R h') := fun _ K o =>
  wk_thing 10 hR hz hk ht htop P (fun h' o' hr => K (k + 1) h' ⟨rfl, hr⟩ o')
theorem go_scope (hR : isR h r b z f c C nm g) (hz : 0 < z ∧ z ≤ 160) {k : Nat} (hk : k < 1000000) {u : Nat} (hu : u < 60) (htop : f (z.toNat - 1) = 100 + (u : Int)) {R : mH → Prop} (P : RUNM G l 11 mX3_goOnShutting [.ref r, .int (J (u : Int))] h (fun v h' => v = none ∧ R h')) : GOES G l r k h (fun k' h' => k' = k + 1 ∧ R h') := fun _ K o =>
  wk_scope 10 hR hz hk hu htop P (fun h' o' hr => K (k + 1) h' ⟨rfl, hr⟩ o')
theorem go_task (hR : isR h r b z f c C nm g) (hz : 0 < z ∧ z ≤ 160) {k : Nat} (hk : k < 1000000) {q : Nat} (hq : q < 10) (htop : f (z.toNat - 1) = 200 + (q : Int)) {R : mH → Prop} (P : RUNM G l 11 mX3_goOnWithTask [.ref r, .int (J (q : Int))] h (fun v h' => v = none ∧ R h')) : GOES G l r k h (fun k' h' => k' = k + 1 ∧ R h') := fun _ K o =>
  wk_task 10 hR hz hk hq htop P (fun h' o' hr => K (k + 1) h' ⟨rfl, hr⟩ o')
end GO
/-- what closings leave alone: where the closers at work go on, the tasks -/
def KPt (m c c' : Nat → Int) (g g' : Nat → Option Nat) : Prop := (∀ u : Nat, (u : Int) < m 1 → m (258 + 14 * u) = 1 → g' (2 * u + 1) = g (2 * u + 1)) ∧ (∀ j, 180 ≤ j → g' j = g j) ∧ (∀ q, 488 ≤ q → (∀ t : Nat, q ≠ 496 + 9 * t) → c' q = c q) ∧ c' 3 = c 3 ∧ c' 4 = c 4
def phi (k : Nat) (m : Nat → Int) : Int := k + 200 * (90 - m 2) - 150 * cnt (cngB m) (m 1).toNat
/-- the closing of a thing, from the round at which it stands on top -/
def SIMC (G : mG) (l : Launch) (r : Nat) (b : Int) (pool : Nat → Int) (S : Nat → Option mO) (h0 : mH) (m : Nat → Int) (t : Nat) (m' : Nat → Int) : Prop :=
  SR m → ∀ (k z : Nat) (f c : Nat → Int) (C : Nat → Nat → Int) (nm : Nat → Int64) (g : Nat → Option Nat) (h : mH), isR h r b ((z : Int) + 1) f c C nm g → f z = t → Same (rBlk r) h0 h → CR (updI m (258 + 14 * t) 1) pool S c C nm g → g (2 * t + 1) = g (2 * t) → (z : Int) ≤ 61 + cnt (cngB m) (m 1).toNat → phi k m ≤ 900000 →
  GOES G l r k h (fun k' h' => ∃ f' c' C' nm' g', isR h' r b z f' c' C' nm' g' ∧ Same (rBlk r) h0 h' ∧ CR m' pool S c' C' nm' g' ∧ (∀ j, j < z → f' j = f j) ∧ KPt m c c' g g' ∧ phi k' m' ≤ phi k m)
def clS (G : mG) (l : Launch) (r : Nat) (b : Int) (pool : Nat → Int) (S : Nat → Option mO) (h0 : mH) (n : Nat) (m : Nat → Int) (t : Nat) (m' : Nat → Int) : Prop := closesR pool b n m t m' ∧ SIMC G l r b pool S h0 m t m' ∧ Ev m m'
/-- a step with a fault has changed nothing -/
theorem stp_same {pool : Nat → Int} {cl : (Nat → Int) → Nat → (Nat → Int) → Prop} {m m' : Nat → Int} {p : Nat} {s2 f : Int} (hf : ¬ f = 0) (k : stpR pool cl m p s2 f m') : m' = m := by
  obtain ⟨-, -, -, k⟩ := k
  rcases k with ⟨-, -, k, -⟩ | ⟨-, k, -⟩ | ⟨-, n, -, -, k1, k2⟩ | ⟨-, ⟨-, -, k⟩ | ⟨-, k, -⟩⟩ | ⟨-, n, -, -, ⟨-, -, k⟩ | ⟨-, -, -, k⟩ | ⟨-, -, k, -⟩⟩ | ⟨-, -, k1, k2⟩ | ⟨-, k, -⟩
  · exact absurd k hf
  · exact k
  · rw [k2]; unfold takenM; rw [if_neg (by rw [← k1]; exact hf)]
  · exact k
  · exact absurd k hf
  · exact k
  · exact k
  · exact absurd k hf
  · rw [k2]
    by_cases w : pool (p + 1) - 48 ≤ m 3 - 1 ∧ m (1610 + 72 * (pool (p + 1) - 48)).toNat = 0
    · rw [if_pos w] at k1; exact absurd k1 hf
    · rw [if_neg w]
  · exact absurd k hf
theorem pf_same {pool : Nat → Int} {cl : (Nat → Int) → Nat → (Nat → Int) → Prop} {m m' : Nat → Int} {p : Nat} {s2 f : Int} (hf : ¬ f = 0) (k : doesR pool cl m p s2 f m') : m' = m := by
  rcases k with k | ⟨-, -, -, -, -, n, j, -, -, -, -, -, ⟨-, k⟩ | ⟨-, k, -⟩⟩
  · exact stp_same hf k
  · exact stp_same hf k
  · exact absurd k hf
section SC
variable {G : mG} {l : Launch} {r : Nat} {b : Int} {pool : Nat → Int} {S : Nat → Option mO} {h0 : mH} {n : Nat}
theorem Ev.sr {m m' : Nat → Int} (h : Ev m m') (k : SR m) (h60 : m 0 ≤ 60) : SR m' := fun a ha => by
  rw [h.1 0 (Or.inl rfl)] at ha
  rw [h.1 (18 + 4 * a) (by unfold far; omega)]
  exact k a ha
/-- what has happened when a closer's step was done -/
def STP (r : Nat) (b : Int) (pool : Nat → Int) (S : Nat → Option mO) (h0 : mH) (m : Nat → Int) (t z : Nat) (f c : Nat → Int) (g : Nat → Option Nat) (fl : Int) (m1 : Nat → Int) (nx : Option Nat) (ph : Int) (k' : Nat) (h' : mH) : Prop :=
  ∃ f' c' C' nm' g', isR h' r b ((z : Int) + 1) f' c' C' nm' g' ∧ Same (rBlk r) h0 h' ∧ (fl = 0 → CR m1 pool S c' C' nm' g' ∧ g' (2 * t + 1) = nx) ∧ (¬ fl = 0 → CRx 1 (gathersM m1 b fl t) pool S c' C' nm' g' ∧ g' (2 * t + 1) = none) ∧ (∀ j, j ≤ z → f' j = f j) ∧
  (∀ u : Nat, (u : Int) < m 1 → m (258 + 14 * u) = 1 → ¬ u = t → g' (2 * u + 1) = g (2 * u + 1)) ∧ (∀ j, 180 ≤ j → g' j = g j) ∧ (∀ q, 488 ≤ q → (∀ t : Nat, q ≠ 496 + 9 * t) → c' q = c q) ∧ c' 3 = c 3 ∧ c' 4 = c 4 ∧ phi k' m1 ≤ ph
end SC
end mg_a3
