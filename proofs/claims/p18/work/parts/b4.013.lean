section mg_b7
theorem en_eq {m pool c : Nat → Int} {S : Nat → Option mO} {C : Nat → Nat → Int} {nm : Nat → Int64} {g : Nat → Option Nat} (h : CR m pool S c C nm g) (hok : mOk m) (hs : ScI m) (hnc : NC m) (hst : ∀ t : Nat, (t : Int) < m 1 → 0 ≤ m (258 + 14 * t) ∧ m (258 + 14 * t) ≤ 2) {a : Int} (ha : 0 ≤ a) {Z N K : Nat} (hZ : c 10 = (Z : Int)) (hN : m 1 = (N : Int)) (hK : m 0 = (K : Int)) : cnt (enB c (C 2) a) Z = entsN m a N K := by
  have k0 := hok.2.1
  have k1 := hok.2.2.1
  obtain ⟨n0, T, A, -, -, ⟨Z', e0⟩, -⟩ := h
  obtain ⟨e1, e2, e3, e4, e5, e6⟩ := e0
  obtain rfl : Z' = Z := by omega
  have ran : ∀ j, j < Z' → (∃ t : Nat, t < N ∧ C 2 j = t) ∨ (∃ s : Nat, s < K ∧ C 2 j = 100 + (s : Int)) := fun j hj => by
    rcases e3 j hj with ⟨t, x, y, -⟩ | ⟨s, x, -, y, -⟩
    · exact Or.inl ⟨t, by omega, x⟩
    · exact Or.inr ⟨s, by omega, x⟩
  have inj : ∀ j k, j < k → k < Z' → ¬ C 2 j = C 2 k := fun j k x y z => by
    have := e4 j k x y; rw [z] at this; omega
  have y := cnt_im (f := C 2) (Q := fun e => decide (ownF c e = a)) (N := N) (C := K) (by omega) ran inj Z' (Nat.le_refl _)
  have z : cnt (enB c (C 2) a) Z' = cnt (fun j => decide (ownF c (C 2 j) = a)) Z' := rfl
  rw [z, y]
  unfold entsN
  have im : ∀ e, imB (C 2) Z' e = true ↔ nodP m e := fun e => by
    rw [im_iff]
    constructor
    · rintro ⟨j, x, rfl⟩; exact e3 j x
    · exact e5 e
  have y1 : cnt (fun t => decide (ownF c (t : Int) = a) && imB (C 2) Z' t) N = cnt (entTB m a) N := cnt_congr _ (fun t ht => by
    show (decide (ownF c (t : Int) = a) && imB (C 2) Z' t) = entTB m a t
    have ht1 : (t : Int) < m 1 := by omega
    rw [ownF_t (by rw [n0.1]; exact ht1) (by omega), (T t ht1).2.1]
    have i2 := (im (t : Int)).trans (nodP_t ht1 k1.2)
    have r := hst t ht1
    have q := hnc t ht1
    unfold entTB
    by_cases w : m (258 + 14 * t) = 0
    · rw [i2.mpr (by omega), Bool.and_true]
      refine decide_eq_decide.mpr ⟨fun x => ⟨w, x⟩, fun x => x.2⟩
    · rw [Bool.eq_false_iff.mpr (fun x => i2.mp x (by omega)), Bool.and_false]
      exact (decide_eq_false (fun x => w x.1)).symm)
  have y2 : cnt (fun s => decide (ownF c (100 + (s : Int)) = a) && imB (C 2) Z' (100 + (s : Int))) K = cnt (entSC m a) K := cnt_congr _ (fun s hs' => by
    show (decide (ownF c (100 + (s : Int)) = a) && imB (C 2) Z' (100 + (s : Int))) = entSC m a s
    have hs1 : (s : Int) < m 0 := by omega
    rw [ownF_s (by rw [n0.2.1]; exact hs1) (by omega), (A s hs1).2.1]
    have i2 := (im (100 + (s : Int))).trans (nodP_s (a := s) k1.2)
    unfold entSC entSB
    by_cases w : 1 ≤ s
    · rw [decide_eq_true w, Bool.true_and]
      by_cases v : m (18 + 4 * s) = 2
      · rw [Bool.eq_false_iff.mpr (fun x => (i2.mp x).2.2 v), Bool.and_false]
        exact (decide_eq_false (fun x => x.1 v)).symm
      · rw [i2.mpr ⟨w, hs1, v⟩, Bool.and_true]
        exact decide_eq_decide.mpr ⟨fun x => ⟨v, x⟩, fun x => x.2⟩
    · rw [decide_eq_false w, Bool.false_and, Bool.eq_false_iff.mpr (fun x => w (i2.mp x).1), Bool.and_false])
  rw [y1, y2]
end mg_b7
