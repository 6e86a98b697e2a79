/-! ===== both sides' worlds, kept by the calls ===== -/
def CTR (m pool : Nat → Int) (S : Nat → Option mO) (c : Nat → Int) (C : Nat → Nat → Int) (nm : Nat → Int64) (g : Nat → Option Nat) : Prop := CR m pool S c C nm g ∧ TKR m pool c S g 99
section CT
variable {m m' pool pool' c c' : Nat → Int} {S S' : Nat → Option mO} {C C' : Nat → Nat → Int} {nm nm' : Nat → Int64} {g g' : Nat → Option Nat} {B : Int}
/-- the tasks' cells are not touched -/
theorem ctr_of (h : CTR m pool S c C nm g) (hT : TkM m pool 99) (hok : mOk m) (hC : CR m' pool S c' C' nm' g') (k1 : ∀ j, 180 ≤ j → g' j = g j) (k2 : ∀ q, 488 ≤ q → (∀ t : Nat, q ≠ 496 + 9 * t) → c' q = c q) (k3 : c' 3 = c 3) (h3 : m' 3 = m 3) (h7 : m' 7 = m 7) (hm : ∀ q, 1608 ≤ q → q < 2328 → (∀ t : Nat, q ≠ 1614 + 72 * t) → m' q = m q) : CTR m' pool S c' C' nm' g' :=
  ⟨hC, h.2.kq hok.2.2.2.2.1.2 hT.nn k1 k2 k3 h3 h7 hm⟩
/-- more objects, more texts in the pool -/
theorem ctr_grow (h : CTR m pool S c C nm g) (hI : Inv m pool B) (hT : TkM m pool 99) (hS : ∀ a o, S a = some o → S' a = some o) (hp : ∀ q : Nat, (q : Int) < m 8 → pool' q = pool q) : CTR m pool' S' c C nm g := by
  obtain ⟨⟨n, T, A, K, L, E, F, Gg, R⟩, h3, hK⟩ := h
  have st : ∀ {it : Bool} {n o b hi p E : Nat}, (E : Int) < m 8 → stL S pool n it o b hi p E → stL S' pool' n it o b hi p E := fun {it n o b hi p E} hE k => by
    have y := stL_2 (sr := pool) (sr' := pool') (d := 0) (d' := 0) n it o b hi p E (fun j _ hj => hp j (by omega)) k
    exact stL_S hS n it o b hi p E y
  refine ⟨⟨n, T, A, K, L, E, F, fun t ht => ?_, R⟩, h3, fun q hq => ?_⟩
  · obtain ⟨P, E, e1, e2, e3⟩ := Gg t ht
    obtain ⟨-, -, -, P', E', f1, f2, -, -, f5⟩ := hI.2.2.1 t ht
    obtain rfl : P' = P := by omega
    obtain rfl : E' = E := by omega
    refine ⟨P', E', e1, e2, ?_⟩
    rcases e3 with e3 | ⟨b, hi, n, e4, e5⟩
    · exact Or.inl e3
    · have := stL_lt e5
      rcases f5 with f5 | f5
      · omega
      · exact Or.inr ⟨b, hi, n, e4, st f5.1 e5⟩
  · obtain ⟨⟨a1, a2, a3, a4, a5, a6, b, hi, n, P, E, e1, e2, e3, e4⟩, hC⟩ := hK q hq
    obtain ⟨-, -, -, -, -, -, -, -, P0, E0, f1, f2, f3, -⟩ := (hT.2 q hq).1
    refine ⟨⟨a1, a2, a3, a4, a5, a6, b, hi, n, P, E, e1, e2, e3, st (by omega) e4⟩, fun z z2 => ?_⟩
    obtain ⟨z0, o, p, E', r1, r2, r3, r4, r5⟩ := hC z z2
    refine ⟨z0, o, p, E', r1, r2, r3, r4, ?_⟩
    rcases r5 with r5 | ⟨r5, b', hi', n', r6, r7⟩
    · exact Or.inl r5
    · exact Or.inr ⟨r5, b', hi', n', r6, st (by omega) r7⟩
theorem ctr_m8 (h : CTR m pool S c C nm g) (hT : TkM m pool 99) (hok : mOk m) {v : Int} : CTR (updI m 8 v) pool S c C nm g := by
  have um : ∀ j, ¬ j = 8 → updI m 8 v j = m j := fun j w => updI_n w
  refine ctr_of h hT hok (h.1.see hok (Int.le_refl _) (fun j hj => um j (by rcases hj with w | w | w | ⟨t, w | w⟩ <;> omega)) (fun _ _ => rfl) (by obtain ⟨⟨-, -, -, -, -, -, -, -, R⟩, -⟩ := h; exact R.1) (fun _ _ => rfl)) (fun _ _ => rfl) (fun _ _ _ => rfl) rfl (um 3 (by omega)) (um 7 (by omega)) (fun q a b _ => um q (by omega))
theorem ctr_open (h : CTR m pool S c C nm g) (hT : TkM m pool 99) (hok : mOk m) {N p Z : Nat} {t : Int} (hN : m 0 = (N : Int)) (h9 : N < 60) (hN1 : 1 ≤ N) (hp : p < 60) (ht : InR t) (hZ : c 10 = (Z : Int)) : CTR (opensM m N p t) pool S (adE (asC c N (p : Int) t) Z) (updC C 2 (updI (C 2) Z (100 + (N : Int)))) nm g := by
  obtain ⟨o0, o1, o2, o3, o4, o6, oe⟩ := opensM_at (m := m) (C := N) (p := (p : Int)) (t := t)
  have uc : ∀ j, (488 ≤ j ∨ j = 3) → adE (asC c N (p : Int) t) Z j = c j := fun j hj => by
    unfold adE asC
    rw [updI_n (by omega), updI_n (by omega), updI_n (by omega), updI_n (by omega), updI_n (by omega)]
  exact ctr_of h hT hok (CR_opens h.1 hok hN h9 hN1 hp ht hZ) (fun _ _ => rfl) (fun q a _ => uc q (Or.inl a)) (uc 3 (Or.inr rfl)) (oe 3 (by omega) (by omega) (by omega)) (oe 7 (by omega) (by omega) (by omega)) (fun q a b _ => oe q (by omega) (by omega) (by omega))
theorem ctr_move (h : CTR m pool S c C nm g) (hT : TkM m pool 99) (hok : mOk m) {t Z : Nat} {s : Int} (ht : (t : Int) < m 1) (h0 : m (258 + 14 * t) = 0) (hs : InR s) (hZ : c 10 = (Z : Int)) : CTR (movesM m t s) pool S (mvC c t s (cnt (notB (t : Int) (C 2)) Z)) (mvD C Z t) nm g := by
  have k1 := hok.2.2.1
  have e : ∀ q, ¬ q = 6 → ¬ q = 259 + 14 * t → ¬ q = 260 + 14 * t → movesM m t s q = m q := fun q a b c => by unfold movesM; rw [updI_n c, updI_n a, updI_n b]
  have uc : ∀ j, (488 ≤ j ∨ j = 3) → mvC c t s (cnt (notB (t : Int) (C 2)) Z) j = c j := fun j hj => by
    unfold mvC
    rw [updI_n (by omega), updI_n (by omega), updI_n (by omega)]
  exact ctr_of h hT hok (CR_move h.1 hok ht h0 hs hZ) (fun _ _ => rfl) (fun q a _ => uc q (Or.inl a)) (uc 3 (Or.inr rfl)) (e 3 (by omega) (by omega) (by omega)) (e 7 (by omega) (by omega) (by omega)) (fun q a b _ => e q (by omega) (by omega) (by omega))
theorem ctr_count (h : CTR m pool S c C nm g) (hT : TkM m pool 99) (hok : mOk m) {k : Nat} {v : Int} (hk : k < 8) (hv : InR v) : CTR (updI m (10 + k) v) pool S c (updC C 0 (updI (C 0) k v)) nm g :=
  ctr_of h hT hok (CR_count h.1 hok (Int.le_refl _) hk hv) (fun _ _ => rfl) (fun _ _ _ => rfl) rfl (updI_n (by omega)) (updI_n (by omega)) (fun q a b _ => updI_n (by omega))
theorem ctr_cancel (h : CTR m pool S c C nm g) (hT : TkM m pool 99) (hok : mOk m) {q : Nat} (hq : q < 10) : CTR (updI m (1614 + 72 * q) 1) pool S (updI c (496 + 9 * q) 1) C nm g :=
  ctr_of h hT hok (CR_tk h.1 hok (Int.le_refl _) hq (by decide)).2 (fun _ _ => rfl) (fun j _ d => updI_n (d q)) (updI_n (by omega)) (updI_n (by omega)) (updI_n (by omega)) (fun j _ _ d => updI_n (d q))
theorem ctr_rank (h : CTR m pool S c C nm g) (hT : TkM m pool 99) (hok : mOk m) {q : Nat} {p : Int} (hq : (q : Int) < m 3) (hp : InR p) : CTR (updI m (1609 + 72 * q) p) pool S (updI c (490 + 9 * q) p) C nm g := by
  have k3 := hok.2.2.2.2.1
  have um : ∀ j, ¬ j = 1609 + 72 * q → updI m (1609 + 72 * q) p j = m j := fun j w => updI_n w
  have uc : ∀ j, ¬ j = 490 + 9 * q → updI c (490 + 9 * q) p j = c j := fun j w => updI_n w
  obtain ⟨hC, hK⟩ := h
  have y : CR (updI m (1609 + 72 * q) p) pool S (updI c (490 + 9 * q) p) C nm g := hC.see hok (Int.le_refl _) (fun j hj => um j (fun w => by
    subst w
    rcases hj with w | w | w | ⟨t, w | w⟩ <;> omega)) (fun j hj => uc j (fun w => by
    subst w
    rcases hj with w | w | w | w | w | ⟨t, w | w⟩ <;> omega)) (fun j => by
    obtain ⟨-, -, -, -, -, -, -, -, R⟩ := hC
    by_cases w : j = 490 + 9 * q
    · subst w; rw [updI_s]; exact hp
    · rw [uc j w]; exact R.1 j) (fun _ _ => rfl)
  have hKq : TKR m pool c S g q := ⟨hK.1, fun u hu => ⟨(hK.2 u hu).1, fun _ => (hK.2 u hu).2 (by omega)⟩⟩
  obtain ⟨kA, kC⟩ := hK.2 q hq
  refine ⟨y, (hKq.ch (m' := updI m (1609 + 72 * q) p) (c' := updI c (490 + 9 * q) p) (g' := g) k3.2 hT.nn (um 3 (by omega)) (by rw [uc 3 (by omega), um 7 (by omega)]; exact hK.1) (fun j a b d w => um j (by omega)) (fun j a b w => uc j (by omega)) (fun _ _ _ => rfl) (fun _ => ?_)).fin (fun z => ?_)⟩
  · obtain ⟨b1, b2, b3, b4, b5, b6, b7, b8, b9, P', E', b10, b11, b12, b13⟩ := kA
    refine ⟨?_, by rw [updI_s, updI_s], ?_, ?_, ?_, ?_, b7, b8, b9, P', E', ?_, ?_, b12, b13⟩
    · rw [uc _ (by omega), um _ (by omega)]; exact b1
    · rw [uc _ (by omega), um _ (by omega)]; exact b3
    · rw [uc _ (by omega), um _ (by omega)]; exact b4
    · rw [uc _ (by omega), um _ (by omega)]; exact b5
    · rw [uc _ (by omega), um _ (by omega)]; exact b6
    · rw [um _ (by omega)]; exact b10
    · rw [um _ (by omega)]; exact b11
  · rw [um _ (by omega)] at z
    obtain ⟨z0, o, p', E, r1, r2, r3, r4, r5⟩ := kC (by omega) z
    exact ⟨by rw [um _ (by omega)]; exact z0, o, p', E, by rw [um _ (by omega)]; exact r1, by rw [um _ (by omega)]; exact r2, by rw [um _ (by omega)]; exact r3, by rw [uc _ (by omega), um _ (by omega)]; exact r4, r5⟩
theorem ctr_take (h : CTR m pool S c C nm g) (hT : TkM m pool 99) (hok : mOk m) {rc : Nat → Int} {N fr to P E Z : Nat} {o : Int} {inn : Option Nat} (hN : m 1 = (N : Int)) (h9 : N < 90) (hn : 1 ≤ to - fr ∧ to - fr ≤ 7) (hft : fr ≤ to) (hl : ∀ j, fr ≤ j → j < to → isLt (rc j)) (ho : InR o) (hx : tpO S pool inn P E) (hZ : c 10 = (Z : Int)) :
    CTR (takesM m rc N o fr to P E) pool S (adE (adC c N o) Z) (updC C 2 (updI (C 2) Z (N : Int))) (updL nm N (nmY rc fr to)) (updO g (2 * N) inn) := by
  have um : ∀ q, ¬ q = 1 → ¬ q = 6 → (q < 258 + 14 * N ∨ 272 + 14 * N ≤ q) → takesM m rc N o fr to P E q = m q := fun q a b d => takesM_n hn.2 a b d
  have uc : ∀ j, (488 ≤ j ∨ j = 3) → adE (adC c N o) Z j = c j := fun j hj => by
    unfold adE adC
    rw [updI_n (by omega), updI_n (by omega), updI_n (by omega), updI_n (by omega), updI_n (by omega)]
  exact ctr_of h hT hok (CR_take h.1 hok hN h9 hn hft hl ho hx hZ) (fun j hj => updO_n (by omega)) (fun q a _ => uc q (Or.inl a)) (uc 3 (Or.inr rfl)) (um 3 (by omega) (by omega) (by omega)) (um 7 (by omega) (by omega) (by omega)) (fun q a b _ => um q (by omega) (by omega) (by omega))
/-- another name -/
theorem ctr_rename (h : CTR m pool S c C nm g) (hT : TkM m pool 99) (hok : mOk m) {rc : Nat → Int} {t e : Nat} (ht : (t : Int) < m 1) (hn : 1 ≤ e ∧ e ≤ 7) (hl : ∀ j, j < e → isLt (rc j)) : CTR (namesM m rc t 0 e) pool S c C (updL nm t (nmY rc 0 e)) g := by
  have k0 := hok.2.1
  have k1 := hok.2.2.1
  have k2 := hok.2.2.2.1
  have k3 := hok.2.2.2.2.1
  have um : ∀ q, (q < 261 + 14 * t ∨ 272 + 14 * t ≤ q) → namesM m rc t 0 e q = m q := fun q hq => by
    rw [namesM_at, if_neg (by omega), updI_n (by omega)]
  have u2 : ∀ q, q = 262 + 14 * t ∨ q = 263 + 14 * t ∨ q = 264 + 14 * t → namesM m rc t 0 e q = m q := fun q hq => by
    rw [namesM_at, if_neg (by omega), updI_n (by omega)]
  have ln : namesM m rc t 0 e (261 + 14 * t) = e := by
    rw [namesM_at, if_neg (by omega), updI_s]; omega
  have nmv : ∀ j, j < e → namesM m rc t 0 e (265 + 14 * t + j) = rc j := fun j hj => by
    rw [namesM_at, if_pos ⟨by omega, by omega⟩]; congr 1; omega
  obtain ⟨⟨n, T, A, K, L, ⟨Z, e0⟩, ⟨F, f⟩, G, R⟩, hK⟩ := id h
  have fb := f.2.1
  have yC : CR (namesM m rc t 0 e) pool S c C (updL nm t (nmY rc 0 e)) g := by
    refine ⟨?_, fun u hu => ?_, ?_, ?_, ?_, ⟨Z, ?_⟩, ⟨F, ?_⟩, ?_, R⟩
    · unfold crN
      rw [um 0 (by omega), um 1 (by omega), um 2 (by omega), um 3 (by omega)]
      exact n
    · rw [um 1 (by omega)] at hu
      obtain ⟨t1, t2, t3, t4, t5⟩ := T u hu
      by_cases w : u = t
      · subst w
        rw [um (258 + 14 * u) (by omega), um (259 + 14 * u) (by omega), u2 (264 + 14 * u) (by omega)]
        refine ⟨t1, t2, t3, ?_, ?_⟩
        · unfold updL nmR nmY nmN
          rw [if_pos rfl, ln, show ((e : Int)).toNat = e by omega]
          have y : cdN (nmG rc 0 e) 7 = cdN (nmG (namesM m rc u 0 e) (265 + 14 * u) (265 + 14 * u + e)) 7 := cdN_c 7 (fun j hj => by
            unfold nmG
            by_cases z : j < e
            · rw [if_pos (by omega), if_pos (by omega), nmv j z, Nat.zero_add]
            · rw [if_neg (by omega), if_neg (by omega)])
          rw [y]
        · unfold nmOk
          rw [ln]
          exact ⟨⟨by omega, by omega⟩, fun j hj => by rw [nmv j (by omega)]; exact hl j (by omega)⟩
      · have q4 : ∀ q, 258 + 14 * u ≤ q → q < 272 + 14 * u → namesM m rc t 0 e q = m q := fun q a b => um q (by omega)
        rw [q4 _ (by omega) (by omega), q4 _ (by omega) (by omega), q4 _ (by omega) (by omega)]
        refine ⟨t1, t2, t3, ?_, nmOk_c (q4 _ (by omega) (by omega)) (fun j hj => q4 _ (by omega) (by omega)) t5⟩
        rw [show updL nm t (nmY rc 0 e) u = nm u by unfold updL; rw [if_neg w]]
        exact t4.trans (nmR_c (q4 _ (by omega) (by omega)) t5.1.2 (fun j hj => q4 _ (by omega) (by omega))).symm
    · exact crS_c A k0.2 (um 0 (by omega)) (fun q a b => um q (by omega)) (fun _ _ _ => rfl)
    · exact crK_c K (um 3 (by omega)) (fun q a b => um q (by omega)) (fun _ _ => rfl) k3.2
    · exact crL_c L k2.2 (um 2 (by omega)) (fun q a b => um q (by omega)) (fun q a b => um q (by omega)) rfl rfl
    · refine crE_c e0 k1.2 rfl (um 0 (by omega)) (um 1 (by omega)) (um 6 (by omega)) (fun u hu => ?_) (fun u hu hb => ?_)
      · by_cases w : u = t
        · subst w; rw [um (258 + 14 * u) (by omega), um (260 + 14 * u) (by omega)]; exact ⟨Iff.rfl, rfl⟩
        · rw [um (258 + 14 * u) (by omega), um (260 + 14 * u) (by omega)]; exact ⟨Iff.rfl, rfl⟩
      · rw [um (18 + 4 * u) (by omega), um (20 + 4 * u) (by omega)]; exact ⟨Iff.rfl, rfl⟩
    · exact crF_c f (by omega) rfl rfl rfl rfl (um 2 (by omega)) (um 4 (by omega)) (um 5 (by omega)) (fun q a b => um q (by omega)) rfl rfl rfl
    · refine crG_c G k1.2 (um 1 (by omega)) (fun u hu => ?_) (fun _ _ => rfl)
      by_cases w : u = t
      · subst w; exact ⟨u2 _ (by omega), u2 _ (by omega)⟩
      · exact ⟨um _ (by omega), um _ (by omega)⟩
  exact ctr_of h hT hok yC (fun _ _ => rfl) (fun _ _ _ => rfl) rfl (um 3 (by omega)) (um 7 (by omega)) (fun q a b _ => um q (by omega))
end CT
