section mg_b6
section BO
variable {G : mG} {l : Launch} {r : Nat} {pool : Nat → Int} {S : Nat → Option mO} {h0 : mH}
end BO
end mg_b6
section mg_b7
/-! ===== what both sides answer ===== -/
section AN
variable {m c : Nat → Int}
/-- parents, on both sides -/
def parR (m c : Nat → Int) : Prop := ∀ a : Nat, (a : Int) < m 0 → ownF c (100 + (a : Int)) = m (19 + 4 * a) ∧ m (19 + 4 * a) < a ∧ -5 ≤ m (19 + 4 * a)
theorem par_of (hN : c 1 = m 0) (h60 : m 0 ≤ 60) (hS : crS m c) (hs : ScI m) : parR m c := fun a ha => by
  rw [ownF_s (by rw [hN]; exact ha) (by omega)]
  refine ⟨(hS a ha).2.1, ?_⟩
  by_cases z : a = 0
  · subst z; rw [show 19 + 4 * 0 = 19 by omega, hs.1]; omega
  · have := ((hs.2.2 a ha).2 (by omega)).1; omega
theorem wi_up (hp : parR m c) {o : Int} (ho : 0 ≤ o) : ∀ (n k : Nat) (s : Int), s < m 0 → s < n → s < k → (wiL c o n s = true ↔ upK m o k s = o)
  | 0, k, s, _, h1, _ => by
    have z : ¬ s = o := by omega
    cases k with
    | zero => exact ⟨fun g => absurd g Bool.false_ne_true, fun g => absurd g z⟩
    | succ k => unfold upK; rw [if_neg (by omega)]; exact ⟨fun g => absurd g Bool.false_ne_true, fun g => absurd g z⟩
  | n + 1, k, s, hs, h1, h2 => by
    unfold wiL
    by_cases z : 0 ≤ s
    · cases k with
      | zero => omega
      | succ k =>
        unfold upK
        rw [if_pos z]
        by_cases e : s = o
        · rw [if_pos e, if_neg (fun g => g.2 e)]; exact ⟨fun _ => e, fun _ => rfl⟩
        · rw [if_neg e, if_pos ⟨z, e⟩]
          obtain ⟨a, rfl⟩ : ∃ a : Nat, s = a := ⟨s.toNat, by omega⟩
          obtain ⟨p1, p2, p3⟩ := hp a hs
          rw [p1, show (19 + 4 * (a : Int)).toNat = 19 + 4 * a by omega]
          exact wi_up hp ho n k _ (by omega) (by omega) (by omega)
    · rw [if_neg z]
      have z2 : ¬ s = o := by omega
      cases k with
      | zero => exact ⟨fun g => absurd g Bool.false_ne_true, fun g => absurd g z2⟩
      | succ k => unfold upK; rw [if_neg (fun g => z g.1)]; exact ⟨fun g => absurd g Bool.false_ne_true, fun g => absurd g z2⟩
theorem wi_be (hp : parR m c) {o s : Int} {C : Nat} (ho : 0 ≤ o) (hC : m 0 = (C : Int)) (h60 : C ≤ 60) (hs : s < m 0) : wiL c o 60 s = belowB m C o s := by
  have y := wi_up hp ho 60 C s hs (by omega) (by omega)
  unfold belowB
  by_cases w : upK m o C s = o
  · rw [decide_eq_true w]; exact y.mpr w
  · rw [decide_eq_false w, ← Bool.not_eq_true]; exact fun g => w (y.mp g)
theorem wi_0 (hp : parR m c) : ∀ (n : Nat) (s : Int), 0 ≤ s → s < m 0 → s < n → (∀ a : Nat, 1 ≤ a → (a : Int) < m 0 → 0 ≤ m (19 + 4 * a)) → wiL c 0 n s = true
  | 0, s, h0, _, h1, _ => by omega
  | n + 1, s, h0, hs, h1, hr => by
    unfold wiL
    rw [if_pos h0]
    by_cases e : s = 0
    · rw [if_pos e]
    · rw [if_neg e]
      obtain ⟨a, rfl⟩ : ∃ a : Nat, s = a := ⟨s.toNat, by omega⟩
      obtain ⟨p1, p2, p3⟩ := hp a hs
      rw [p1]
      exact wi_0 hp n _ (hr a (by omega) hs) (by omega) (by omega) hr
theorem sa_up (hp : parR m c) : ∀ (n k : Nat) (s : Int), s < m 0 → s < n → s < k → saL c n s = upN m k s
  | 0, k, s, _, h1, _ => by
    cases k with
    | zero => rfl
    | succ k => unfold upN; rw [if_neg (by omega)]; rfl
  | n + 1, k, s, hs, h1, h2 => by
    unfold saL
    by_cases z : 0 ≤ s
    · cases k with
      | zero => omega
      | succ k =>
        unfold upN
        rw [if_pos z, if_pos z]
        obtain ⟨a, rfl⟩ : ∃ a : Nat, s = a := ⟨s.toNat, by omega⟩
        obtain ⟨p1, p2, p3⟩ := hp a hs
        rw [p1, show (19 + 4 * (a : Int)).toNat = 19 + 4 * a by omega, sa_up hp n k _ (by omega) (by omega) (by omega)]
    · rw [if_neg z]
      cases k with
      | zero => rfl
      | succ k => unfold upN; rw [if_neg z]
/-! things held in a scope and those in it -/
theorem hw_eq (hp : parR m c) {nm : Nat → Int64} (hT : crT m c nm) {C : Nat} {i : Int} (hi : 0 ≤ i) (hC : m 0 = (C : Int)) (h60 : C ≤ 60) (hst : ∀ t : Nat, (t : Int) < m 1 → (0 ≤ m (258 + 14 * t) ∧ m (258 + 14 * t) ≤ 2) ∧ m (259 + 14 * t) < m 0) {t : Nat} (ht : (t : Int) < m 1) : hwB c i t = heldInB m C i t := by
  obtain ⟨a, b⟩ := hst t ht
  obtain ⟨t1, t2, -⟩ := hT t ht
  unfold hwB heldInB heldB
  rw [t1, t2, wi_be hp hi hC h60 b]
  by_cases z : m (258 + 14 * t) = 0
  · rw [decide_eq_true z, Bool.true_and]
    by_cases w : belowB m C i (m (259 + 14 * t)) = true
    · rw [w]; exact decide_eq_true ⟨(swT_0 a).mpr z, rfl⟩
    · rw [Bool.eq_false_iff.mpr w]; exact decide_eq_false (fun g => absurd g.2 (by decide))
  · rw [decide_eq_false z, Bool.false_and]; exact decide_eq_false (fun g => z ((swT_0 a).mp g.1))
theorem yg_end {C : Nat} {a : Int} : ∀ (n t : Nat) (f : Int), ygL m C a (n + 1) t f = if heldInB m C a (t + n) = true then ((t + n : Nat) : Int) else ygL m C a n t f
  | 0, t, f => rfl
  | n + 1, t, f => by
    have ih := yg_end (C := C) (a := a) n (t + 1) (if heldInB m C a t = true then (t : Int) else f)
    rw [show t + 1 + n = t + (n + 1) by omega] at ih
    show ygL m C a (n + 1) (t + 1) (if heldInB m C a t = true then (t : Int) else f) = _
    rw [ih]
    rfl
theorem yw_eq {i : Int} {C : Nat} : ∀ n : Nat, (∀ t, t < n → hwB c i t = heldInB m C i t) → ywL c i n = ygL m C i n 0 (-5)
  | 0, _ => rfl
  | n + 1, h => by
    rw [yg_end, Nat.zero_add]
    unfold ywL
    rw [h n (by omega), yw_eq n (fun t ht => h t (by omega))]
/-! tasks that are ready, in their order -/
theorem ra_eq {pool : Nat → Int} {S : Nat → Option mO} {g : Nat → Option Nat} (hK : crK m c) (hT : TKR m pool c S g 99) {K : Nat} (h3 : m 3 = (K : Int)) {a u : Nat} (ha : a < K) (hu : u < K) : raB c a u = rdB m a u := by
  obtain ⟨⟨-, p1, -, l1, -⟩, -⟩ := hT.2 a (by omega)
  obtain ⟨⟨-, p2, -, l2, -⟩, -⟩ := hT.2 u (by omega)
  unfold raB rdB readyB caP
  rw [p1, p2, l1, l2, (hK u (by omega)).1]
  by_cases z : m (1610 + 72 * u) = 0
  · rw [decide_eq_true z, Bool.true_and, ← Bool.decide_and]
    refine decide_eq_decide.mpr ?_
    unfold aheadP
    constructor
    · rintro ⟨-, g⟩
      by_cases e : u = a
      · subst e; omega
      · exact ⟨e, by omega⟩
    · rintro ⟨g1, g2⟩; exact ⟨z, by omega⟩
  · rw [decide_eq_false z, Bool.false_and]; exact decide_eq_false (fun g => z g.1)
theorem rp_eq {pool : Nat → Int} {S : Nat → Option mO} {g : Nat → Option Nat} (hK : crK m c) (hT : TKR m pool c S g 99) {K : Nat} (h3 : m 3 = (K : Int)) {i : Int} : ∀ n t : Nat, t + n = K → rpL c K i n t = rdO m K i n t
  | 0, t, _ => rfl
  | n + 1, t, h => by
    unfold rpL rdO
    have e1 : cnt (raB c t) K = cnt (rdB m t) K := cnt_congr _ (fun q hq => ra_eq hK hT h3 (by omega) hq)
    have e2 : (c (489 + 9 * t) = 0 ∧ cnt (raB c t) K = i) ↔ (readyB m t = true ∧ cnt (rdB m t) K = i) := by
      rw [e1, (hK t (by omega)).1]; unfold readyB; rw [decide_eq_true_iff]
    rw [rp_eq hK hT h3 n (t + 1) (by omega)]
    by_cases z : c (489 + 9 * t) = 0 ∧ cnt (raB c t) K = i
    · rw [if_pos z, if_pos (e2.mp z)]
    · rw [if_neg z, if_neg (fun g => z (e2.mpr g))]
/-! counts -/
theorem ry_eq (hK : crK m c) {K : Nat} (h3 : m 3 = (K : Int)) : cnt (ryB c) K = cnt (readyB m) K := cnt_congr _ (fun q hq => by unfold ryB readyB; rw [(hK q (by omega)).1])
end AN
/-! the entries of a scope -/
def imB (f : Nat → Int) : Nat → Int → Bool
  | 0, _ => false
  | n + 1, e => imB f n e || decide (f n = e)
theorem im_iff {f : Nat → Int} {e : Int} : ∀ n, imB f n e = true ↔ ∃ j, j < n ∧ f j = e
  | 0 => ⟨fun g => absurd g Bool.false_ne_true, fun ⟨j, h, _⟩ => absurd h (Nat.not_lt_zero _)⟩
  | n + 1 => by
    unfold imB
    rw [Bool.or_eq_true, im_iff n, decide_eq_true_iff]
    constructor
    · rintro (⟨j, a, b⟩ | b)
      · exact ⟨j, by omega, b⟩
      · exact ⟨n, by omega, b⟩
    · rintro ⟨j, a, b⟩
      by_cases z : j = n
      · subst z; exact Or.inr b
      · exact Or.inl ⟨j, by omega, b⟩
end mg_b7
