section mg_a2
section EXI
variable {pool : Nat → Int} {sink : Int} {cl cl' : (Nat → Int) → Nat → (Nat → Int) → Prop} {sh sh' : (Nat → Int) → Int → (Nat → Int) → Prop} {n : Nat}
theorem turnLoop_exI (hPo : poolOk pool) (hCX : CXG cl pool 91) (hSX : SXG sh pool 61) {t P E : Nat} (hPE : E ≤ P + 120) : ∀ (k : Nat) (m : Nat → Int) (B : Int) (o p : Nat), (t : Int) < m 3 → (E : Int) < m 8 → Mid m pool B → TkM m pool t → B + (E - p : Nat) ≤ 1800000000 → m (1619 + 72 * t) = (o : Int) + 1 → m (1616 + 72 * t) = P → m (1617 + 72 * t) = E → P ≤ p → m (1615 + 72 * t) ≤ (p : Int) - P → stsT pool k o p E →
    ∃ m', turnLoopI pool cl sh t E k m p m' ∧ Aft m m' pool (B + (E - p : Nat))
  | 0, m, B, o, p, _, _, _, _, _, _, _, _, _, _, hT => absurd hT id
  | k + 1, m, B, o, p, ht, hE8, h, hT, hB, hn, hP, hE, hp, hd, hS => by
    obtain ⟨e, o', t1, t2, t3⟩ := hS
    obtain ⟨hM, k0, k1, k2, k3, k4, k5, k7⟩ := id h.1.1
    have hlt := stepK_lt t1
    have h8 := h.1.2.1.2.2
    have heE : e ≤ E := by rcases t3 with t3 | ⟨t3, _⟩ <;> omega
    have hbe := (stepK_skip t1).beh (E := E) heE (by rcases t3 with t3 | ⟨_, t3, _⟩; exact Or.inl t3; exact Or.inr t3)
    obtain ⟨f, m1, a, b, c, d, kt, ko⟩ := doesIn_exg hPo hCX hSX ht h hT (by omega) hn t1 (endC_nd t2) (by omega) (by omega)
    obtain ⟨kt3, kt7, kt8, ktq⟩ := id kt
    have ht1 : (t : Int) < m1 3 := by omega
    obtain ⟨hM1, j0, j1, j2, j3, j4, j5, j7⟩ := id b.1.1
    have d1 : m1 (1615 + 72 * t) = m (1615 + 72 * t) := ktq _ (by omega) (by omega) (by omega)
    have d5 := (hT.2 t ht).1.2.2.2.2.1
    by_cases z : f = 0
    · subst z
      have e2 : ∀ q, ¬ q = 1615 + 72 * t → updI m1 (1615 + 72 * t) (m1 (1615 + 72 * t) + 1) q = m1 q := fun q a => updI_n a
      have hm : Mid (updI m1 (1615 + 72 * t) (m1 (1615 + 72 * t) + 1)) pool (B + 1) := b.out ⟨by omega, by omega⟩ (by omega)
      have hT2 : TkM (updI m1 (1615 + 72 * t) (m1 (1615 + 72 * t) + 1)) pool t := c.step (e2 3 (by omega)) (e2 0 (by omega)) j0.2 j3.2 (by rw [e2 7 (by omega)]; exact Int.le_refl _) (by rw [e2 8 (by omega)]; exact Int.le_refl _) (fun c _ hc => e2 _ (by omega)) (fun u hu hu9 => ⟨fun q a b c => e2 q (by omega), Or.inl (e2 _ (by omega))⟩) (fun _ => by
        obtain ⟨a1, a2, a3, a4, a5, a6, ⟨n, a7, a8⟩, a9, a10⟩ := (c.2 t ht1).1
        unfold tkB
        rw [updI_s, e2 8 (by omega), e2 _ (by omega), e2 _ (by omega), e2 _ (by omega), e2 _ (by omega), e2 _ (by omega), e2 _ (by omega), e2 _ (by omega), e2 _ (by omega), e2 _ (by omega), e2 _ (by omega), e2 _ (by omega), e2 _ (by omega)]
        refine ⟨a1, a2, a3, a4, ⟨by omega, by omega⟩, a6, ⟨n, a7, a8.1, fun k hk => ?_, fun k hk => ?_⟩, a9, a10⟩
        · rw [e2 _ (by omega), e2 0 (by omega)]; exact a8.2.1 k hk
        · have z1 := a8.2.1 (k + 1) hk
          rw [e2 (1620 + 72 * t + (k + 1)) (by omega), e2 (1620 + 72 * t + k) (by omega), e2 _ (by omega)]; exact a8.2.2 k hk)
      have g9 : updI m1 (1615 + 72 * t) (m1 (1615 + 72 * t) + 1) (1619 + 72 * t) = (o' : Int) + 1 := (e2 _ (by omega)).trans (ko rfl)
      have g6 : updI m1 (1615 + 72 * t) (m1 (1615 + 72 * t) + 1) (1616 + 72 * t) = P := (e2 _ (by omega)).trans ((ktq _ (by omega) (by omega) (by omega)).trans hP)
      have g7 : updI m1 (1615 + 72 * t) (m1 (1615 + 72 * t) + 1) (1617 + 72 * t) = E := (e2 _ (by omega)).trans ((ktq _ (by omega) (by omega) (by omega)).trans hE)
      have aft : ∀ m' B', Aft (updI m1 (1615 + 72 * t) (m1 (1615 + 72 * t) + 1)) m' pool B' → B' ≤ B + (E - p : Nat) → Aft m m' pool (B + (E - p : Nat)) := fun m' B' x y => ⟨x.1.up y, x.2.1, x.2.2.1.trans ((e2 3 (by omega)).trans kt3), x.2.2.2.1.trans ((e2 7 (by omega)).trans kt7), ⟨x.2.2.2.2.1.trans ((e2 8 (by omega)).trans kt8.1), by have y := x.2.2.2.2.2; rw [e2 1 (by omega)] at y; omega⟩⟩
      have fin : p < E ∧ e + 1 ≤ 12343 ∧ (e + 1 < E → ∃ P' : Nat, updI m1 (1615 + 72 * t) (m1 (1615 + 72 * t) + 1) (1616 + 72 * t) = P' ∧ P' ≤ e + 1 ∧ updI m1 (1615 + 72 * t) (m1 (1615 + 72 * t) + 1) (1615 + 72 * t) ≤ ((e + 1 : Nat) : Int) - P' ∧ ∃ k, stsT pool k o' (e + 1) E) := by
        refine ⟨by omega, by omega, fun g => ⟨P, g6, by omega, by rw [updI_s]; omega, ?_⟩⟩
        rcases t3 with t3 | ⟨t3, t4, t5⟩
        · omega
        · exact ⟨k, t5⟩
      by_cases dot : pool p = 46
      · obtain ⟨m', x1, x2⟩ := turnFin_exg hPo hCX hSX (by rw [e2 3 (by omega)]; exact ht1) hm hT2 (by omega) g9 g7 fin.2.1 fin.2.2
        exact ⟨m', Or.inr ⟨by omega, 0, m1, ⟨a, ⟨_, b⟩, c, kt⟩, d, hM1, Or.inr ⟨rfl, Or.inl ⟨dot, by rw [hbe]; exact x1⟩⟩⟩, aft m' _ x2 (by omega)⟩
      · rcases t3 with rfl | ⟨t3, t4, t5⟩
        · obtain ⟨m', x1, x2⟩ := turnFin_exg hPo hCX hSX (by rw [e2 3 (by omega)]; exact ht1) hm hT2 (by omega) g9 g7 fin.2.1 fin.2.2
          refine ⟨m', Or.inr ⟨by omega, 0, m1, ⟨a, ⟨_, b⟩, c, kt⟩, d, hM1, Or.inr ⟨rfl, Or.inr ⟨dot, ?_⟩⟩⟩, aft m' _ x2 (by omega)⟩
          rw [hbe]
          cases k with
          | zero => exact ⟨by omega, x1⟩
          | succ k => exact Or.inl ⟨by omega, x1⟩
        · clear fin
          obtain ⟨m', x1, x2⟩ := turnLoop_exI hPo hCX hSX hPE k _ (B + 1) o' (e + 1) (by rw [e2 3 (by omega)]; exact ht1) (by rw [e2 8 (by omega)]; omega) hm hT2 (by omega) g9 g6 g7 (by omega) (by rw [updI_s]; omega) t5
          exact ⟨m', Or.inr ⟨by omega, 0, m1, ⟨a, ⟨_, b⟩, c, kt⟩, d, hM1, Or.inr ⟨rfl, Or.inr ⟨dot, by rw [hbe]; exact x1⟩⟩⟩, aft m' _ x2 (by omega)⟩
    · have e2 : ∀ q, ¬ q = 1618 + 72 * t → updI m1 (1618 + 72 * t) f q = m1 q := fun q a => updI_n a
      have hm : Mid (updI m1 (1618 + 72 * t) f) pool (B + 1) := b.out d (by omega)
      have hT2 : TkM (updI m1 (1618 + 72 * t) f) pool t := c.step (e2 3 (by omega)) (e2 0 (by omega)) j0.2 j3.2 (by rw [e2 7 (by omega)]; exact Int.le_refl _) (by rw [e2 8 (by omega)]; exact Int.le_refl _) (fun c _ hc => e2 _ (by omega)) (fun u hu hu9 => ⟨fun q a b c => e2 q (by omega), Or.inl (e2 _ (by omega))⟩) (fun _ => by
        obtain ⟨a1, a2, a3, a4, a5, a6, ⟨n, a7, a8⟩, a9, a10⟩ := (c.2 t ht1).1
        unfold tkB
        rw [e2 8 (by omega), e2 _ (by omega), e2 _ (by omega), e2 _ (by omega), e2 _ (by omega), e2 _ (by omega), e2 _ (by omega), e2 _ (by omega), e2 _ (by omega), e2 _ (by omega), e2 _ (by omega), e2 _ (by omega), e2 _ (by omega), e2 _ (by omega)]
        refine ⟨a1, a2, a3, a4, a5, a6, ⟨n, a7, a8.1, fun k hk => ?_, fun k hk => ?_⟩, a9, a10⟩
        · rw [e2 _ (by omega), e2 0 (by omega)]; exact a8.2.1 k hk
        · have z1 := a8.2.1 (k + 1) hk
          rw [e2 (1620 + 72 * t + (k + 1)) (by omega), e2 (1620 + 72 * t + k) (by omega), e2 _ (by omega)]; exact a8.2.2 k hk)
      obtain ⟨m', x1, x2, x3, x4⟩ := isOver_exg hPo hCX hSX (st := 2) (by rw [e2 3 (by omega)]; exact ht1) hm hT2 (by omega) (by decide)
      refine ⟨m', Or.inr ⟨by omega, f, m1, ⟨a, ⟨_, b⟩, c, kt⟩, d, hM1, Or.inl ⟨z, x1⟩⟩, x2.up (by omega), x3, ?_, ?_, ?_⟩
      · rw [x4.1 3 (Or.inr (Or.inl rfl)), updI_n (by omega), e2 3 (by omega)]; exact kt3
      · rw [x4.1 7 (Or.inr (Or.inr (Or.inl rfl))), updI_n (by omega), e2 7 (by omega)]; exact kt7
      · have y := x4.2.2.1.1
        rw [updI_n (by omega), e2 1 (by omega)] at y
        rw [x4.1 8 (Or.inr (Or.inr (Or.inr (Or.inl rfl)))), updI_n (by omega), e2 8 (by omega)]; exact ⟨kt8.1, by omega⟩
end EXI
end mg_a2
