/-! ===== what comes, what is moved, a scope's end ===== -/
section CHG3
variable {x : Int} {m pool c : Nat → Int} {S : Nat → Option mO} {C : Nat → Nat → Int} {nm : Nat → Int64} {g : Nat → Option Nat}
theorem nmR_take {rc : Nat → Int} {N fr to : Nat} {o p e : Int} (h7 : to - fr ≤ 7) (hft : fr ≤ to) : nmR (takesM m rc N o fr to p e) N = nmY rc fr to := by
  unfold nmR nmY nmN
  rw [takesM_ln, show ((to : Int) - fr).toNat = to - fr by omega]
  have e1 : cdN (nmG (takesM m rc N o fr to p e) (265 + 14 * N) (265 + 14 * N + (to - fr))) 7 = cdN (nmG rc fr to) 7 := cdN_c 7 (fun j hj => by
    unfold nmG
    by_cases w : fr + j < to
    · rw [if_pos (by omega), if_pos w, takesM_nm h7 hj, if_pos (by omega)]
    · rw [if_neg (by omega), if_neg w])
  rw [e1]
/-- a thing is TAKEN -/
theorem CR_take (h : CRx 0 m pool S c C nm g) (hok : mOk m) {rc : Nat → Int} {N fr to P E Z : Nat} {o : Int} {inn : Option Nat} (hN : m 1 = (N : Int)) (h9 : N < 90) (hn : 1 ≤ to - fr ∧ to - fr ≤ 7) (hft : fr ≤ to) (hl : ∀ j, fr ≤ j → j < to → isLt (rc j)) (ho : InR o) (hx : tpO S pool inn P E) (hZ : c 10 = (Z : Int)) :
    CRx 0 (takesM m rc N o fr to P E) pool S (adE (adC c N o) Z) (updC C 2 (updI (C 2) Z (N : Int))) (updL nm N (nmY rc fr to)) (updO g (2 * N) inn) := by
  obtain ⟨n, T, A, K, L, ⟨Z', e⟩, ⟨F, f⟩, G, R⟩ := h
  have k0 := hok.2.1
  have k1 := hok.2.2.1
  have k2 := hok.2.2.2.1
  have k3 := hok.2.2.2.2.1
  have hZ' : Z' = Z := by have := e.1; omega
  subst hZ'
  have um : ∀ q, ¬ q = 1 → ¬ q = 6 → (q < 258 + 14 * N ∨ 272 + 14 * N ≤ q) → takesM m rc N o fr to P E q = m q := fun q a b d => takesM_n hn.2 a b d
  have uc : ∀ q, ¬ q = 0 → ¬ q = 10 → (q < 32 + 3 * N ∨ 35 + 3 * N ≤ q) → adE (adC c N o) Z' q = c q := fun q a b d => by
    unfold adE adC
    rw [updI_n (by omega), updI_n (by omega), updI_n (by omega), updI_n (by omega), updI_n (by omega)]
  have c0 : adE (adC c N o) Z' 0 = (N : Int) + 1 := by unfold adE adC; rw [updI_n (by omega), updI_n (by omega), updI_n (by omega), updI_n (by omega), updI_s]
  have c10 : adE (adC c N o) Z' 10 = (Z' : Int) + 1 := by unfold adE; rw [updI_s]
  have cst : adE (adC c N o) Z' (32 + 3 * N) = 0 := by unfold adE adC; rw [updI_n (by omega), updI_n (by omega), updI_n (by omega), updI_s]
  have cow : adE (adC c N o) Z' (33 + 3 * N) = o := by unfold adE adC; rw [updI_n (by omega), updI_n (by omega), updI_s]
  have cpl : adE (adC c N o) Z' (34 + 3 * N) = -5 := by unfold adE adC; rw [updI_n (by omega), updI_s]
  have m1 : takesM m rc N o fr to P E 1 = (N : Int) + 1 := takesM_1
  have m6 : takesM m rc N o fr to P E 6 = m 6 + 1 := takesM_6
  have er := e.2.1
  have fb := f.2.1
  refine ⟨?_, ?_, ?_, ?_, ?_, ⟨Z' + 1, ?_⟩, ⟨F, ?_⟩, ?_, ?_, ?_⟩
  · unfold crN
    rw [um 0 (by omega) (by omega) (by omega), m1, um 2 (by omega) (by omega) (by omega), um 3 (by omega) (by omega) (by omega), c0, uc 1 (by omega) (by omega) (by omega), uc 2 (by omega) (by omega) (by omega), uc 8 (by omega) (by omega) (by omega), uc 9 (by omega) (by omega) (by omega)]
    exact ⟨rfl, n.2⟩
  · intro u hu
    rw [m1] at hu
    by_cases w : u = N
    · subst w
      rw [cst, cow, cpl, takesM_st, takesM_ow, takesM_pl, nmR_take hn.2 hft]
      refine ⟨by decide, rfl, rfl, by unfold updL; rw [if_pos rfl], ?_⟩
      unfold nmOk
      rw [takesM_ln]
      refine ⟨by omega, fun j hj => ?_⟩
      rw [takesM_nm hn.2 (by omega), if_pos (by omega)]
      exact hl _ (by omega) (by omega)
    · obtain ⟨t1, t2, t3, t4, t5⟩ := T u (by omega)
      have q4 : ∀ q, 258 + 14 * u ≤ q → q < 272 + 14 * u → takesM m rc N o fr to P E q = m q := fun q a b => um q (by omega) (by omega) (by omega)
      rw [uc _ (by omega) (by omega) (by omega), uc _ (by omega) (by omega) (by omega), uc _ (by omega) (by omega) (by omega), q4 _ (by omega) (by omega), q4 _ (by omega) (by omega), q4 _ (by omega) (by omega)]
      refine ⟨t1, t2, t3, ?_, nmOk_c (q4 _ (by omega) (by omega)) (fun j hj => q4 _ (by omega) (by omega)) t5⟩
      rw [show updL nm N (nmY rc fr to) u = nm u by unfold updL; rw [if_neg w]]
      exact t4.trans (nmR_c (q4 _ (by omega) (by omega)) t5.1.2 (fun j hj => q4 _ (by omega) (by omega))).symm
  · exact crS_c A k0.2 (um 0 (by omega) (by omega) (by omega)) (fun q a b => um q (by omega) (by omega) (by omega)) (fun q a b => uc q (by omega) (by omega) (by omega))
  · exact crK_c K (um 3 (by omega) (by omega) (by omega)) (fun q a b => um q (by omega) (by omega) (by omega)) (fun q a => uc q (by omega) (by omega) (by omega)) k3.2
  · exact crL_c L k2.2 (um 2 (by omega) (by omega) (by omega)) (fun q a b => um q (by omega) (by omega) (by omega)) (fun q a b => um q (by omega) (by omega) (by omega)) (updC_n (by decide)) (updC_n (by decide))
  · rw [updC_s]
    have sN : stampI (takesM m rc N o fr to P E) (N : Int) = m 6 + 1 := by rw [stampI_t (by omega)]; exact takesM_sp
    have so : ∀ e', nodP m e' → stampI (takesM m rc N o fr to P E) e' = stampI m e' := fun e' he => stampI_c k1.2 (fun u hu => um _ (by omega) (by omega) (by omega)) (fun u hu hb => um _ (by omega) (by omega) (by omega)) he
    refine crE_o.mpr ⟨by rw [c10]; omega, by rw [m1, um 0 (by omega) (by omega) (by omega)]; omega, ?_⟩
    refine ordE_c (ordE_a (crE_o.mp e).2.2 (st' := stampI (takesM m rc N o fr to P E)) (e1 := (N : Int)) (top' := m 6 + 1) so (by rw [sN]; omega) (by rw [sN]; omega)) (fun e' => ?_) (fun _ _ => rfl) (by rw [m6]; exact Int.le_refl _)
    unfold nodP
    rw [um 0 (by omega) (by omega) (by omega), m1]
    constructor
    · rintro (⟨u, a, b, d⟩ | ⟨u, a, d1, b, d⟩)
      · by_cases w : u = N
        · subst w; exact Or.inr a
        · rw [um _ (by omega) (by omega) (by omega)] at d
          exact Or.inl (Or.inl ⟨u, a, by omega, d⟩)
      · rw [um _ (by omega) (by omega) (by omega)] at d
        exact Or.inl (Or.inr ⟨u, a, d1, b, d⟩)
    · rintro ((⟨u, a, b, d⟩ | ⟨u, a, d1, b, d⟩) | w)
      · exact Or.inl ⟨u, a, by omega, by rw [um _ (by omega) (by omega) (by omega)]; exact d⟩
      · exact Or.inr ⟨u, a, d1, b, by rw [um _ (by omega) (by omega) (by omega)]; exact d⟩
      · exact Or.inl ⟨N, w, by omega, by rw [takesM_st]; decide⟩
  · exact crF_c f (by omega) (uc 11 (by omega) (by omega) (by omega)) (uc 12 (by omega) (by omega) (by omega)) (uc 13 (by omega) (by omega) (by omega)) (uc 4 (by omega) (by omega) (by omega)) (um 2 (by omega) (by omega) (by omega)) (um 4 (by omega) (by omega) (by omega)) (um 5 (by omega) (by omega) (by omega)) (fun q a b => um q (by omega) (by omega) (by omega)) (updC_n (by decide)) (updC_n (by decide)) (updC_n (by decide))
  · intro u hu
    rw [m1] at hu
    by_cases w : u = N
    · subst w
      exact ⟨P, E, takesM_p, takesM_e, by rw [updO_s]; exact hx⟩
    · rw [um _ (by omega) (by omega) (by omega), um _ (by omega) (by omega) (by omega), updO_n (by omega)]
      exact G u (by omega)
  · unfold adE adC
    exact updI_r (updI_r (updI_r (updI_r (updI_r R.1 ⟨by omega, by omega⟩) (by decide)) ho) (by decide)) ⟨by omega, by omega⟩
  · exact updC_r R.2 (updI_r (R.2 2) ⟨by omega, by omega⟩)
/-- a thing is MOVED -/
theorem CR_move (h : CRx 0 m pool S c C nm g) (hok : mOk m) {t Z : Nat} {s : Int} (ht : (t : Int) < m 1) (h0 : m (258 + 14 * t) = 0) (hs : InR s) (hZ : c 10 = (Z : Int)) : CRx 0 (movesM m t s) pool S (mvC c t s (cnt (notB (t : Int) (C 2)) Z)) (mvD C Z t) nm g := by
  obtain ⟨n, T, A, K, L, ⟨Z', e⟩, ⟨F, f⟩, G, R⟩ := h
  have k0 := hok.2.1
  have k1 := hok.2.2.1
  have k2 := hok.2.2.2.1
  have k3 := hok.2.2.2.2.1
  have hZ' : Z' = Z := by have := e.1; omega
  subst hZ'
  obtain ⟨d1, d2, d3⟩ := ordE_d (crE_o.mp e).2.2 (e0 := (t : Int)) ((nodP_t ht k1.2).mpr (by rw [h0]; decide))
  have um : ∀ q, ¬ q = 259 + 14 * t → ¬ q = 6 → ¬ q = 260 + 14 * t → movesM m t s q = m q := fun q a b d => by
    unfold movesM; rw [updI_n d, updI_n b, updI_n a]
  have mow : movesM m t s (259 + 14 * t) = s := by unfold movesM; rw [updI_n (by omega), updI_n (by omega), updI_s]
  have m6 : movesM m t s 6 = m 6 + 1 := by unfold movesM; rw [updI_n (by omega), updI_s]
  have msp : movesM m t s (260 + 14 * t) = m 6 + 1 := by unfold movesM; rw [updI_s]
  obtain ⟨k', hk'⟩ : ∃ k', cnt (notB (t : Int) (C 2)) Z' = k' := ⟨_, rfl⟩
  have D2 : mvD C Z' t 2 = updI (drA (t : Int) (C 2) Z') (Z' - 1) (t : Int) := by
    unfold mvD; rw [updC_s, hk', show k'.toNat = Z' - 1 by omega]
  have Dn : ∀ k, ¬ k = 2 → mvD C Z' t k = C k := fun k a => by unfold mvD; rw [updC_n a, updC_n a]
  rw [hk'] at d1 ⊢
  have uc : ∀ q, ¬ q = 33 + 3 * t → ¬ q = 10 → mvC c t s k' q = c q := fun q a b => by
    unfold mvC; rw [updI_n b, updI_n b, updI_n a]
  have cow : mvC c t s k' (33 + 3 * t) = s := by unfold mvC; rw [updI_n (by omega), updI_n (by omega), updI_s]
  have c10 : mvC c t s k' 10 = k' + 1 := by unfold mvC; rw [updI_s]
  have er := e.2.1
  have fb := f.2.1
  refine ⟨?_, ?_, ?_, ?_, ?_, ⟨Z', ?_⟩, ⟨F, ?_⟩, ?_, ?_, ?_⟩
  · unfold crN
    rw [um 0 (by omega) (by omega) (by omega), um 1 (by omega) (by omega) (by omega), um 2 (by omega) (by omega) (by omega), um 3 (by omega) (by omega) (by omega), uc 0 (by omega) (by omega), uc 1 (by omega) (by omega), uc 2 (by omega) (by omega), uc 8 (by omega) (by omega), uc 9 (by omega) (by omega)]
    exact n
  · intro u hu
    rw [um 1 (by omega) (by omega) (by omega)] at hu
    obtain ⟨t1, t2, t3, t4, t5⟩ := T u hu
    have q4 : ∀ q, 261 + 14 * u ≤ q → q < 272 + 14 * u → movesM m t s q = m q := fun q a b => um q (by omega) (by omega) (by omega)
    rw [uc (32 + 3 * u) (by omega) (by omega), uc (34 + 3 * u) (by omega) (by omega), um (258 + 14 * u) (by omega) (by omega) (by omega), um (264 + 14 * u) (by omega) (by omega) (by omega)]
    refine ⟨t1, ?_, t3, t4.trans (nmR_c (q4 _ (by omega) (by omega)) t5.1.2 (fun j hj => q4 _ (by omega) (by omega))).symm, nmOk_c (q4 _ (by omega) (by omega)) (fun j hj => q4 _ (by omega) (by omega)) t5⟩
    by_cases w : u = t
    · subst w; rw [cow, mow]
    · rw [uc _ (by omega) (by omega), um _ (by omega) (by omega) (by omega)]; exact t2
  · exact crS_c A k0.2 (um 0 (by omega) (by omega) (by omega)) (fun q a b => um q (by omega) (by omega) (by omega)) (fun q a b => uc q (by omega) (by omega))
  · exact crK_c K (um 3 (by omega) (by omega) (by omega)) (fun q a b => um q (by omega) (by omega) (by omega)) (fun q a => uc q (by omega) (by omega)) k3.2
  · exact crL_c L k2.2 (um 2 (by omega) (by omega) (by omega)) (fun q a b => um q (by omega) (by omega) (by omega)) (fun q a b => um q (by omega) (by omega) (by omega)) (Dn 0 (by decide)) (Dn 1 (by decide))
  · rw [D2]
    have sN : stampI (movesM m t s) (t : Int) = m 6 + 1 := by rw [stampI_t (by omega)]; exact msp
    have so : ∀ e', (nodP m e' ∧ ¬ e' = (t : Int)) → stampI (movesM m t s) e' = stampI m e' := fun e' he => by
      obtain ⟨h1, h2⟩ := he
      rcases h1 with ⟨u, rfl, b, -⟩ | ⟨a, rfl, d, b, -⟩
      · rw [stampI_t (by omega), stampI_t (by omega)]; exact um _ (by omega) (by omega) (by omega)
      · rw [stampI_s, stampI_s]; exact um _ (by omega) (by omega) (by omega)
    refine crE_o.mpr ⟨by rw [c10]; omega, by rw [um 1 (by omega) (by omega) (by omega), um 0 (by omega) (by omega) (by omega)]; omega, ?_⟩
    have oa := ordE_a d3 (st' := stampI (movesM m t s)) (e1 := (t : Int)) (top' := m 6 + 1) so (by rw [sN]; omega) (by rw [sN]; omega)
    rw [show Z' - 1 + 1 = Z' by omega] at oa
    refine ordE_c oa (fun e' => ?_) (fun _ _ => rfl) (by rw [m6]; exact Int.le_refl _)
    have nd : nodP (movesM m t s) e' ↔ nodP m e' := nodP_c (um 0 (by omega) (by omega) (by omega)) (um 1 (by omega) (by omega) (by omega)) (fun u hu => by rw [um _ (by omega) (by omega) (by omega)]) (fun u hu hb => by rw [um _ (by omega) (by omega) (by omega)])
    rw [nd]
    constructor
    · intro h1
      by_cases w : e' = (t : Int)
      · exact Or.inr w
      · exact Or.inl ⟨h1, w⟩
    · rintro (⟨h1, -⟩ | rfl)
      · exact h1
      · exact (nodP_t ht k1.2).mpr (by rw [h0]; decide)
  · exact crF_c f (by omega) (uc 11 (by omega) (by omega)) (uc 12 (by omega) (by omega)) (uc 13 (by omega) (by omega)) (uc 4 (by omega) (by omega)) (um 2 (by omega) (by omega) (by omega)) (um 4 (by omega) (by omega) (by omega)) (um 5 (by omega) (by omega) (by omega)) (fun q a b => um q (by omega) (by omega) (by omega)) (Dn 3 (by decide)) (Dn 4 (by decide)) (Dn 5 (by decide))
  · exact crG_c G k1.2 (um 1 (by omega) (by omega) (by omega)) (fun u hu => ⟨um _ (by omega) (by omega) (by omega), um _ (by omega) (by omega) (by omega)⟩) (fun _ _ => rfl)
  · unfold mvC
    exact updI_r (updI_r (updI_r R.1 hs) ⟨by omega, by omega⟩) ⟨by omega, by omega⟩
  · unfold mvD
    exact updC_r (updC_r R.2 (drA_r (R.2 2) Z')) (updI_r (drA_r (R.2 2) Z') ⟨by omega, by omega⟩)
/-- a scope is SHUT -/
theorem CR_sce (h : CRx 0 m pool S c C nm g) (hok : mOk m) {a Z : Nat} (ha : (a : Int) < m 0) (h1 : m (18 + 4 * a) = 1) (hZ : c 10 = (Z : Int)) : CRx 0 (updI m (18 + 4 * a) (if a = 0 then 0 else 2)) pool S (gsC c a (cnt (notB (100 + (a : Int)) (C 2)) Z)) (updC C 2 (drA (100 + (a : Int)) (C 2) Z)) nm g := by
  obtain ⟨n, T, A, K, L, ⟨Z', e⟩, ⟨F, f⟩, G, R⟩ := h
  have k0 := hok.2.1
  have k1 := hok.2.2.1
  have k2 := hok.2.2.2.1
  have k3 := hok.2.2.2.2.1
  have hZ' : Z' = Z := by have := e.1; omega
  subst hZ'
  have um : ∀ q, ¬ q = 18 + 4 * a → updI m (18 + 4 * a) (if a = 0 then 0 else 2) q = m q := fun q w => updI_n w
  obtain ⟨k', hk'⟩ : ∃ k', cnt (notB (100 + (a : Int)) (C 2)) Z' = k' := ⟨_, rfl⟩
  have uc : ∀ q, ¬ q = 304 + 3 * a → ¬ q = 10 → gsC c a k' q = c q := fun q u w => by unfold gsC; rw [updI_n w, updI_n u]
  have cst : gsC c a k' (304 + 3 * a) = if a = 0 then 0 else 1 := by unfold gsC; rw [updI_n (by omega), updI_s]
  have c10 : gsC c a k' 10 = k' := by unfold gsC; rw [updI_s]
  have er := e.2.1
  have fb := f.2.1
  have kr := cnt_r (notB (100 + (a : Int)) (C 2)) Z'
  have ent : ∃ Z2 : Nat, k' = Z2 ∧ (Z2 : Int) ≤ Z' ∧ ordE (nodP (updI m (18 + 4 * a) (if a = 0 then 0 else 2))) (stampI (updI m (18 + 4 * a) (if a = 0 then 0 else 2))) (m 6) (drA (100 + (a : Int)) (C 2) Z') Z2 := by
    have so : ∀ e', nodP m e' → stampI (updI m (18 + 4 * a) (if a = 0 then 0 else 2)) e' = stampI m e' := fun e' he => stampI_c k1.2 (fun u hu => um _ (by omega)) (fun u hu hb => um _ (by omega)) he
    by_cases z : a = 0
    · subst z
      have nn : ∀ j, j < Z' → ¬ C 2 j = 100 + ((0 : Nat) : Int) := fun j hj w => by
        have := e.2.2.1 j hj
        rw [w] at this
        have := (nodP_s (a := 0) k1.2).mp this
        omega
      obtain ⟨x1, x2⟩ := dr_lo (v := 100 + ((0 : Nat) : Int)) (f := C 2) Z' nn
      refine ⟨Z', by rw [← hk']; exact x1, Int.le_refl _, ?_⟩
      have fe : drA (100 + ((0 : Nat) : Int)) (C 2) Z' = C 2 := funext x2
      rw [fe]
      refine ordE_c (crE_o.mp e).2.2 (fun e' => nodP_c (um 0 (by omega)) (um 1 (by omega)) (fun u hu => by rw [um _ (by omega)]) (fun u hu hb => by rw [um _ (by omega)])) so (Int.le_refl _)
    · obtain ⟨d1, d2, d3⟩ := ordE_d (crE_o.mp e).2.2 (e0 := 100 + (a : Int)) ((nodP_s k1.2).mpr ⟨by omega, ha, by rw [h1]; decide⟩)
      refine ⟨Z' - 1, by omega, by omega, ordE_c d3 (fun e' => ?_) (fun e' he => so e' he.1) (Int.le_refl _)⟩
      unfold nodP
      rw [um 0 (by omega), um 1 (by omega)]
      constructor
      · rintro (⟨u, p, b, d⟩ | ⟨u, p, q, b, d⟩)
        · rw [um _ (by omega)] at d
          exact ⟨Or.inl ⟨u, p, b, d⟩, by omega⟩
        · by_cases w : u = a
          · subst w; rw [updI_s, if_neg z] at d; exact absurd rfl d
          · rw [um _ (by omega)] at d
            exact ⟨Or.inr ⟨u, p, q, b, d⟩, by omega⟩
      · rintro ⟨⟨u, p, b, d⟩ | ⟨u, p, q, b, d⟩, w⟩
        · exact Or.inl ⟨u, p, b, by rw [um _ (by omega)]; exact d⟩
        · exact Or.inr ⟨u, p, q, b, by rw [um _ (by omega)]; exact d⟩
  obtain ⟨Z2, z1, z2, z3⟩ := ent
  rw [hk']
  refine ⟨?_, ?_, ?_, ?_, ?_, ⟨Z2, ?_⟩, ⟨F, ?_⟩, ?_, ?_, ?_⟩
  · unfold crN
    rw [um 0 (by omega), um 1 (by omega), um 2 (by omega), um 3 (by omega), uc 0 (by omega) (by omega), uc 1 (by omega) (by omega), uc 2 (by omega) (by omega), uc 8 (by omega) (by omega), uc 9 (by omega) (by omega)]
    exact n
  · exact crT_c T k1.2 (um 1 (by omega)) (fun q w y => um q (by omega)) (fun q w y => uc q (by omega) (by omega)) rfl
  · intro u hu
    rw [um 0 (by omega)] at hu
    obtain ⟨t1, t2, t3⟩ := A u hu
    rw [uc (305 + 3 * u) (by omega) (by omega), uc (306 + 3 * u) (by omega) (by omega), um (19 + 4 * u) (by omega), um (21 + 4 * u) (by omega)]
    refine ⟨?_, t2, t3⟩
    by_cases w : u = a
    · subst w
      rw [cst, updI_s]
      by_cases z : u = 0
      · rw [if_pos z, if_pos z]; decide
      · rw [if_neg z, if_neg z]; decide
    · rw [uc _ (by omega) (by omega), um _ (by omega)]; exact t1
  · exact crK_c K (um 3 (by omega)) (fun q w y => um q (by omega)) (fun q w => uc q (by omega) (by omega)) k3.2
  · exact crL_c L k2.2 (um 2 (by omega)) (fun q w y => um q (by omega)) (fun q w y => um q (by omega)) (updC_n (by decide)) (updC_n (by decide))
  · rw [updC_s]
    exact crE_o.mpr ⟨by rw [c10]; exact z1, by rw [um 1 (by omega), um 0 (by omega)]; omega, by rw [um 6 (by omega)]; exact z3⟩
  · exact crF_c f (by omega) (uc 11 (by omega) (by omega)) (uc 12 (by omega) (by omega)) (uc 13 (by omega) (by omega)) (uc 4 (by omega) (by omega)) (um 2 (by omega)) (um 4 (by omega)) (um 5 (by omega)) (fun q w y => um q (by omega)) (updC_n (by decide)) (updC_n (by decide)) (updC_n (by decide))
  · exact crG_c G k1.2 (um 1 (by omega)) (fun u hu => ⟨um _ (by omega), um _ (by omega)⟩) (fun _ _ => rfl)
  · unfold gsC
    exact updI_r (updI_r R.1 (by split <;> decide)) ⟨by omega, by omega⟩
  · exact updC_r R.2 (drA_r (R.2 2) Z')
/-- a scope comes -/
theorem CR_opens (h : CRx 0 m pool S c C nm g) (hok : mOk m) {N p Z : Nat} {t : Int} (hN : m 0 = (N : Int)) (h9 : N < 60) (hN1 : 1 ≤ N) (hp : p < 60) (ht : InR t) (hZ : c 10 = (Z : Int)) : CRx 0 (opensM m N p t) pool S (adE (asC c N (p : Int) t) Z) (updC C 2 (updI (C 2) Z (100 + (N : Int)))) nm g := by
  obtain ⟨n, T, A, K, L, ⟨Z', e⟩, ⟨F, f⟩, G, R⟩ := h
  have k0 := hok.2.1
  have k1 := hok.2.2.1
  have k2 := hok.2.2.2.1
  have k3 := hok.2.2.2.2.1
  have hZ' : Z' = Z := by have := e.1; omega
  subst hZ'
  obtain ⟨o1, o2, o3, o4, o5, o6, o7⟩ := opensM_at (m := m) (C := N) (p := (p : Int)) (t := t)
  have um : ∀ q, ¬ q = 0 → ¬ q = 6 → (q < 18 + 4 * N ∨ 22 + 4 * N ≤ q) → opensM m N p t q = m q := o7
  have uc : ∀ q, ¬ q = 1 → ¬ q = 10 → (q < 304 + 3 * N ∨ 307 + 3 * N ≤ q) → adE (asC c N (p : Int) t) Z' q = c q := fun q a b d => by
    unfold adE asC
    rw [updI_n (by omega), updI_n (by omega), updI_n (by omega), updI_n (by omega), updI_n (by omega)]
  have c1 : adE (asC c N (p : Int) t) Z' 1 = (N : Int) + 1 := by unfold adE asC; rw [updI_n (by omega), updI_n (by omega), updI_n (by omega), updI_n (by omega), updI_s]
  have c10 : adE (asC c N (p : Int) t) Z' 10 = (Z' : Int) + 1 := by unfold adE; rw [updI_s]
  have cs : adE (asC c N (p : Int) t) Z' (304 + 3 * N) = 0 := by unfold adE asC; rw [updI_n (by omega), updI_n (by omega), updI_n (by omega), updI_s]
  have cp : adE (asC c N (p : Int) t) Z' (305 + 3 * N) = p := by unfold adE asC; rw [updI_n (by omega), updI_n (by omega), updI_s]
  have ck : adE (asC c N (p : Int) t) Z' (306 + 3 * N) = t := by unfold adE asC; rw [updI_n (by omega), updI_s]
  have er := e.2.1
  have fb := f.2.1
  refine ⟨?_, ?_, ?_, ?_, ?_, ⟨Z' + 1, ?_⟩, ⟨F, ?_⟩, ?_, ?_, ?_⟩
  · unfold crN
    rw [o1, um 1 (by omega) (by omega) (by omega), um 2 (by omega) (by omega) (by omega), um 3 (by omega) (by omega) (by omega), uc 0 (by omega) (by omega) (by omega), c1, uc 2 (by omega) (by omega) (by omega), uc 8 (by omega) (by omega) (by omega), uc 9 (by omega) (by omega) (by omega)]
    exact ⟨n.1, rfl, n.2.2⟩
  · exact crT_c T k1.2 (um 1 (by omega) (by omega) (by omega)) (fun q w y => um q (by omega) (by omega) (by omega)) (fun q w y => uc q (by omega) (by omega) (by omega)) rfl
  · intro u hu
    rw [o1] at hu
    by_cases w : u = N
    · subst w
      rw [cs, cp, ck, o2, o3, o5]; exact ⟨by decide, rfl, rfl⟩
    · rw [uc _ (by omega) (by omega) (by omega), uc _ (by omega) (by omega) (by omega), uc _ (by omega) (by omega) (by omega), um _ (by omega) (by omega) (by omega), um _ (by omega) (by omega) (by omega), um _ (by omega) (by omega) (by omega)]
      exact A u (by omega)
  · exact crK_c K (um 3 (by omega) (by omega) (by omega)) (fun q w y => um q (by omega) (by omega) (by omega)) (fun q w => uc q (by omega) (by omega) (by omega)) k3.2
  · exact crL_c L k2.2 (um 2 (by omega) (by omega) (by omega)) (fun q w y => um q (by omega) (by omega) (by omega)) (fun q w y => um q (by omega) (by omega) (by omega)) (updC_n (by decide)) (updC_n (by decide))
  · rw [updC_s]
    have sN : stampI (opensM m N p t) (100 + (N : Int)) = m 6 + 1 := by rw [stampI_s]; exact o4
    have so : ∀ e', nodP m e' → stampI (opensM m N p t) e' = stampI m e' := fun e' he => stampI_c k1.2 (fun u hu => um _ (by omega) (by omega) (by omega)) (fun u hu hb => um _ (by omega) (by omega) (by omega)) he
    refine crE_o.mpr ⟨by rw [c10]; omega, by rw [o1, um 1 (by omega) (by omega) (by omega)]; omega, ?_⟩
    refine ordE_c (ordE_a (crE_o.mp e).2.2 (st' := stampI (opensM m N p t)) (e1 := 100 + (N : Int)) (top' := m 6 + 1) so (by rw [sN]; omega) (by rw [sN]; omega)) (fun e' => ?_) (fun _ _ => rfl) (by rw [o6]; exact Int.le_refl _)
    unfold nodP
    rw [um 1 (by omega) (by omega) (by omega), o1]
    constructor
    · rintro (⟨u, a, b, d⟩ | ⟨u, a, d1, b, d⟩)
      · rw [um _ (by omega) (by omega) (by omega)] at d
        exact Or.inl (Or.inl ⟨u, a, b, d⟩)
      · by_cases w : u = N
        · subst w; exact Or.inr a
        · rw [um _ (by omega) (by omega) (by omega)] at d
          exact Or.inl (Or.inr ⟨u, a, d1, by omega, d⟩)
    · rintro ((⟨u, a, b, d⟩ | ⟨u, a, d1, b, d⟩) | w)
      · exact Or.inl ⟨u, a, b, by rw [um _ (by omega) (by omega) (by omega)]; exact d⟩
      · exact Or.inr ⟨u, a, d1, by omega, by rw [um _ (by omega) (by omega) (by omega)]; exact d⟩
      · exact Or.inr ⟨N, w, hN1, by omega, by rw [o2]; decide⟩
  · exact crF_c f (by omega) (uc 11 (by omega) (by omega) (by omega)) (uc 12 (by omega) (by omega) (by omega)) (uc 13 (by omega) (by omega) (by omega)) (uc 4 (by omega) (by omega) (by omega)) (um 2 (by omega) (by omega) (by omega)) (um 4 (by omega) (by omega) (by omega)) (um 5 (by omega) (by omega) (by omega)) (fun q a b => um q (by omega) (by omega) (by omega)) (updC_n (by decide)) (updC_n (by decide)) (updC_n (by decide))
  · exact crG_c G k1.2 (um 1 (by omega) (by omega) (by omega)) (fun u hu => ⟨um _ (by omega) (by omega) (by omega), um _ (by omega) (by omega) (by omega)⟩) (fun _ _ => rfl)
  · unfold adE asC
    exact updI_r (updI_r (updI_r (updI_r (updI_r R.1 ⟨by omega, by omega⟩) (by decide)) ⟨by omega, by omega⟩) ht) ⟨by omega, by omega⟩
  · exact updC_r R.2 (updI_r (R.2 2) ⟨by omega, by omega⟩)
/-- a call begins that gathers -/
theorem CR_call (h : CRx 0 m pool S c C nm g) (hok : mOk m) : CRx 0 (updI m 5 0) pool S (updI c 4 (c 11)) C nm g := by
  obtain ⟨n, T, A, K, L, ⟨Z, e⟩, ⟨F, f⟩, G, R⟩ := h
  have k0 := hok.2.1
  have k1 := hok.2.2.1
  have k2 := hok.2.2.2.1
  have k3 := hok.2.2.2.2.1
  have um : ∀ q, ¬ q = 5 → updI m 5 0 q = m q := fun q w => updI_n w
  have uc : ∀ q, ¬ q = 4 → updI c 4 (c 11) q = c q := fun q w => updI_n w
  refine ⟨?_, ?_, ?_, ?_, ?_, ⟨Z, ?_⟩, ⟨F, ?_⟩, ?_, updI_r R.1 (R.1 11), R.2⟩
  · unfold crN
    rw [um 0 (by omega), um 1 (by omega), um 2 (by omega), um 3 (by omega), uc 0 (by omega), uc 1 (by omega), uc 2 (by omega), uc 8 (by omega), uc 9 (by omega)]
    exact n
  · exact crT_c T k1.2 (um 1 (by omega)) (fun q w y => um q (by omega)) (fun q w y => uc q (by omega)) rfl
  · exact crS_c A k0.2 (um 0 (by omega)) (fun q w y => um q (by omega)) (fun q w y => uc q (by omega))
  · exact crK_c K (um 3 (by omega)) (fun q w y => um q (by omega)) (fun q w => uc q (by omega)) k3.2
  · exact crL_c L k2.2 (um 2 (by omega)) (fun q w y => um q (by omega)) (fun q w y => um q (by omega)) rfl rfl
  · exact crE_c e k1.2 (uc 10 (by omega)) (um 0 (by omega)) (um 1 (by omega)) (um 6 (by omega)) (fun u hu => by rw [um _ (by omega), um _ (by omega)]; exact ⟨Iff.rfl, rfl⟩) (fun u hu hb => by rw [um _ (by omega), um _ (by omega)]; exact ⟨Iff.rfl, rfl⟩)
  · obtain ⟨f1, f2, f3, f4, f5, f6, f7⟩ := f
    unfold crF
    rw [uc 11 (by omega), uc 12 (by omega), uc 13 (by omega), updI_s, updI_s, um 2 (by omega), um 4 (by omega), f1.1]
    refine ⟨⟨rfl, f1.2⟩, f2, ⟨by omega, Int.le_refl _⟩, f4, fun j a b => ?_, ?_, fun j a b => by omega⟩
    · rw [um _ (by omega), um _ (by omega), um _ (by omega)]; exact f5 j a b
    · rw [Int.toNat_natCast, gbB_0]
  · exact crG_c G k1.2 (um 1 (by omega)) (fun u hu => ⟨um _ (by omega), um _ (by omega)⟩) (fun _ _ => rfl)
end CHG3
