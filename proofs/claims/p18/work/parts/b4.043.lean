section mg_c4
section NT
variable {m pool c : Nat → Int} {S : Nat → Option mO} {C : Nat → Nat → Int} {nm : Nat → Int64} {g : Nat → Option Nat}
theorem ctr_task (h : CTR m pool S c C nm g) (hT : TkM m pool 99) (hok : mOk m) (h1 : 1 ≤ m 0) (h6 : InR (m 6 + 1)) (h8 : 0 ≤ m 8 ∧ m 8 + 130 ≤ 12342) {T N Z len a P : Nat} {b : Int} {s hi n : Nat} (hT3 : m 3 = (T : Int)) (hT9 : T < 10) (hN : m 0 = (N : Int)) (h60 : N < 60) (ha : a < 60) (hb : -99 ≤ b ∧ b ≤ 99) (hP : m 8 = (P : Int)) (hlen : len ≤ 120) (hZ : c 10 = (Z : Int)) (hL : stL S pool n true 0 s hi P (P + len)) :
    CTR (newTaskM m a b len) pool S (atC c T N Z (a : Int) b) (updC C 2 (updI (C 2) Z (100 + (N : Int)))) nm (tsG g T (some s)) := by
  obtain ⟨hC, hK⟩ := h
  obtain ⟨n0, T0, A, K, L, ⟨Z', e⟩, ⟨F, f⟩, G, R⟩ := id hC
  obtain ⟨v1, v2, v3, v4, v5, v6, v7, v8⟩ := nt_v (a := (a : Int)) (b := b) (len := len) hT3 hN h60
  have lt := stL_lt hL
  -- the row with the new task, its scope not yet there
  have zo : ∀ q, ¬ q = 3 → ¬ q = 8 → (q < 1608 + 72 * T ∨ 1680 + 72 * T ≤ q) → updI (zrF (updI m 3 (m 3 + 1)) (1608 + 72 * T) 72) 8 (m 8 + (len : Nat) + 1) q = m q := fun q h1 h2 h3 => by
    rw [updI_n h2]; unfold zrF; rw [if_neg (by omega), updI_n h1]
  have zz : ∀ q, ¬ q = 8 → 1608 + 72 * T ≤ q → q < 1680 + 72 * T → updI (zrF (updI m 3 (m 3 + 1)) (1608 + 72 * T) 72) 8 (m 8 + (len : Nat) + 1) q = 0 := fun q h1 h2 h3 => by
    rw [updI_n h1]; unfold zrF; rw [if_pos ⟨h2, by omega⟩]
  have z3 : updI (zrF (updI m 3 (m 3 + 1)) (1608 + 72 * T) 72) 8 (m 8 + (len : Nat) + 1) 3 = m 3 + 1 := by
    rw [updI_n (by omega)]; unfold zrF; rw [if_neg (by omega), updI_s]
  have z8 : updI (zrF (updI m 3 (m 3 + 1)) (1608 + 72 * T) 72) 8 (m 8 + (len : Nat) + 1) 8 = m 8 + (len : Nat) + 1 := updI_s
  have hok2 : mOk (updI (zrF (updI m 3 (m 3 + 1)) (1608 + 72 * T) 72) 8 (m 8 + (len : Nat) + 1)) := by
    refine ⟨fun q => ?_, ?_⟩
    · by_cases q8 : q = 8
      · subst q8; rw [z8]; exact ⟨by omega, by omega⟩
      · by_cases q3 : q = 3
        · subst q3; rw [z3]; exact ⟨by omega, by omega⟩
        · by_cases w : 1608 + 72 * T ≤ q ∧ q < 1680 + 72 * T
          · rw [zz q q8 w.1 w.2]; decide
          · rw [zo q q3 q8 (by omega)]; exact hok.1 q
    · rw [z3, zo 0 (by omega) (by omega) (by omega), zo 1 (by omega) (by omega) (by omega), zo 2 (by omega) (by omega) (by omega), zo 4 (by omega) (by omega) (by omega), zo 5 (by omega) (by omega) (by omega)]
      have k1 := hok.2.2.1
      exact ⟨hok.2.1, k1, hok.2.2.2.1, ⟨by omega, by omega⟩, hok.2.2.2.2.2.1, hok.2.2.2.2.2.2.1, fun u hu => by rw [zo _ (by omega) (by omega) (by omega)]; exact hok.2.2.2.2.2.2.2 u hu⟩
  have k0 := hok.2.1
  have k1 := hok.2.2.1
  have k3 := hok.2.2.2.2.1
  have to : ∀ q, ¬ q = 2 → (q < 488 + 9 * T ∨ 497 + 9 * T ≤ q) → tsC (updI c 2 ((T : Int) + 1)) T (N : Int) b q = c q := fun q h1 h2 => by
    unfold tsC
    rw [updI_n (by omega), updI_n (by omega), updI_n (by omega), updI_n (by omega), updI_n (by omega), updI_n (by omega), updI_n (by omega), updI_n (by omega), updI_n (by omega), updI_n h1]
  have tv : ∀ {x : Nat → Int}, tsC x T (N : Int) b (488 + 9 * T) = 0 ∧ tsC x T (N : Int) b (489 + 9 * T) = 0 ∧ tsC x T (N : Int) b (490 + 9 * T) = b ∧ tsC x T (N : Int) b (491 + 9 * T) = 0 ∧ tsC x T (N : Int) b (492 + 9 * T) = 0 ∧ tsC x T (N : Int) b (493 + 9 * T) = N ∧ tsC x T (N : Int) b (494 + 9 * T) = N ∧ tsC x T (N : Int) b (495 + 9 * T) = 0 ∧ tsC x T (N : Int) b (496 + 9 * T) = 0 := fun {x} => by
    unfold tsC
    refine ⟨?_, ?_, ?_, ?_, ?_, ?_, ?_, ?_, updI_s⟩
    · rw [updI_n (by omega), updI_n (by omega), updI_n (by omega), updI_n (by omega), updI_n (by omega), updI_n (by omega), updI_n (by omega), updI_n (by omega), updI_s]
    · rw [updI_n (by omega), updI_n (by omega), updI_n (by omega), updI_n (by omega), updI_n (by omega), updI_n (by omega), updI_n (by omega), updI_s]
    · rw [updI_n (by omega), updI_n (by omega), updI_n (by omega), updI_n (by omega), updI_n (by omega), updI_n (by omega), updI_s]
    · rw [updI_n (by omega), updI_n (by omega), updI_n (by omega), updI_n (by omega), updI_n (by omega), updI_s]
    · rw [updI_n (by omega), updI_n (by omega), updI_n (by omega), updI_n (by omega), updI_s]
    · rw [updI_n (by omega), updI_n (by omega), updI_n (by omega), updI_s]
    · rw [updI_n (by omega), updI_n (by omega), updI_s]
    · rw [updI_n (by omega), updI_s]
  have tr : ∀ q, InR (tsC (updI c 2 ((T : Int) + 1)) T (N : Int) b q) := by
    unfold tsC
    exact updI_r (updI_r (updI_r (updI_r (updI_r (updI_r (updI_r (updI_r (updI_r (updI_r R.1 ⟨by omega, by omega⟩) (by decide)) (by decide)) ⟨by omega, by omega⟩) (by decide)) (by decide)) ⟨by omega, by omega⟩) ⟨by omega, by omega⟩) (by decide)) (by decide)
  have y1 : CR (updI (zrF (updI m 3 (m 3 + 1)) (1608 + 72 * T) 72) 8 (m 8 + (len : Nat) + 1)) pool S (tsC (updI c 2 ((T : Int) + 1)) T (N : Int) b) C nm (tsG g T (some s)) :=
    CR_newt hC hok hT9 hT3 z3 zo (zz _ (by omega) (by omega) (by omega)) (zz _ (by omega) (by omega) (by omega)) (by
      unfold tsC
      rw [updI_n (by omega), updI_n (by omega), updI_n (by omega), updI_n (by omega), updI_n (by omega), updI_n (by omega), updI_n (by omega), updI_n (by omega), updI_n (by omega), updI_s, n0.2.2.1, hT3]) to tv.2.1 tv.2.2.2.2.2.2.2.2 tr (fun t ht => by unfold tsG; rw [updO_n (by omega), updO_n (by omega)])
  have y2 := CR_opens y1 hok2 (N := N) (p := a) (t := (T : Int)) (Z := Z) (by rw [zo 0 (by omega) (by omega) (by omega)]; exact hN) h60 (by omega) ha ⟨by omega, by omega⟩ (by rw [to 10 (by omega) (by omega)]; exact hZ)
  obtain ⟨o0, o1, o2, o3, o4, o6, oe⟩ := opensM_at (m := updI (zrF (updI m 3 (m 3 + 1)) (1608 + 72 * T) 72) 8 (m 8 + (len : Nat) + 1)) (C := N) (p := (a : Int)) (t := (T : Int))
  have same : ∀ q, (q < 1608 + 72 * T ∨ 1680 + 72 * T ≤ q) → newTaskM m a b len q = opensM (updI (zrF (updI m 3 (m 3 + 1)) (1608 + 72 * T) 72) 8 (m 8 + (len : Nat) + 1)) N a (T : Int) q := fun q hq => by
    rw [nt_o hT3 hN hq, hT3]
  -- the class's cells, in the other order
  have cs : ∀ q, atC c T N Z (a : Int) b q = adE (asC (tsC (updI c 2 ((T : Int) + 1)) T (N : Int) b) N (a : Int) (T : Int)) Z q := fun q => by
    unfold atC
    by_cases w : 488 + 9 * T ≤ q ∧ q < 497 + 9 * T
    · have e1 : adE (asC (tsC (updI c 2 ((T : Int) + 1)) T (N : Int) b) N (a : Int) (T : Int)) Z q = tsC (updI c 2 ((T : Int) + 1)) T (N : Int) b q := by
        unfold adE asC
        rw [updI_n (by omega), updI_n (by omega), updI_n (by omega), updI_n (by omega), updI_n (by omega)]
      rw [e1]
      obtain ⟨a1, a2, a3, a4, a5, a6, a7, a8, a9⟩ := tv (x := adE (asC (updI c 2 ((T : Int) + 1)) N (a : Int) (T : Int)) Z)
      obtain ⟨b1, b2, b3, b4, b5, b6, b7, b8, b9⟩ := tv (x := updI c 2 ((T : Int) + 1))
      have hq : q = 488 + 9 * T ∨ q = 489 + 9 * T ∨ q = 490 + 9 * T ∨ q = 491 + 9 * T ∨ q = 492 + 9 * T ∨ q = 493 + 9 * T ∨ q = 494 + 9 * T ∨ q = 495 + 9 * T ∨ q = 496 + 9 * T := by omega
      rcases hq with rfl | rfl | rfl | rfl | rfl | rfl | rfl | rfl | rfl
      · rw [a1, b1]
      · rw [a2, b2]
      · rw [a3, b3]
      · rw [a4, b4]
      · rw [a5, b5]
      · rw [a6, b6]
      · rw [a7, b7]
      · rw [a8, b8]
      · rw [a9, b9]
    · have e1 : ∀ (x : Nat → Int) j, ¬ (488 + 9 * T ≤ j ∧ j < 497 + 9 * T) → tsC x T (N : Int) b j = x j := fun x j hj => by
        unfold tsC
        rw [updI_n (by omega), updI_n (by omega), updI_n (by omega), updI_n (by omega), updI_n (by omega), updI_n (by omega), updI_n (by omega), updI_n (by omega), updI_n (by omega)]
      rw [e1 _ q w]
      unfold adE asC
      have up : ∀ {x y : Nat → Int} {k : Nat} {v : Int}, (¬ q = k → x q = y q) → updI x k v q = updI y k v q := fun {x y k v} hh => by
        by_cases z : q = k
        · subst z; rw [updI_s, updI_s]
        · rw [updI_n z, updI_n z]; exact hh z
      refine up (fun _ => up (fun _ => up (fun _ => up (fun _ => up (fun _ => ?_)))))
      exact (e1 _ q w).symm
  have cs' : atC c T N Z (a : Int) b = adE (asC (tsC (updI c 2 ((T : Int) + 1)) T (N : Int) b) N (a : Int) (T : Int)) Z := funext cs
  have hok3 : ∀ q, InR (atC c T N Z (a : Int) b q) := fun q => by
    obtain ⟨-, -, -, -, -, -, -, -, R2⟩ := id y2
    rw [cs']; exact R2.1 q
  have z6 : updI (zrF (updI m 3 (m 3 + 1)) (1608 + 72 * T) 72) 8 (m 8 + (len : Nat) + 1) 6 = m 6 := zo 6 (by omega) (by omega) (by omega)
  have mo : mOk (opensM (updI (zrF (updI m 3 (m 3 + 1)) (1608 + 72 * T) 72) 8 (m 8 + (len : Nat) + 1)) N a (T : Int)) := by
    refine ⟨?_, ?_⟩
    · unfold opensM
      rw [z6]
      exact updM_in (updM_in (updM_in (updM_in (updM_in (updM_in hok2.1 ⟨by omega, by omega⟩) (by decide)) ⟨by omega, by omega⟩) h6) h6) ⟨by omega, by omega⟩
    · rw [o0, oe 1 (by omega) (by omega) (by omega), oe 2 (by omega) (by omega) (by omega), oe 3 (by omega) (by omega) (by omega), oe 4 (by omega) (by omega) (by omega), oe 5 (by omega) (by omega) (by omega)]
      exact ⟨⟨by omega, by omega⟩, hok2.2.2.1, hok2.2.2.2.1, hok2.2.2.2.2.1, hok2.2.2.2.2.2.1, hok2.2.2.2.2.2.2.1, fun u hu => by
        have k1' := hok2.2.2.1
        rw [oe _ (by omega) (by omega) (by omega)]; exact hok2.2.2.2.2.2.2.2 u hu⟩
  have y3 : CR (newTaskM m a b len) pool S (atC c T N Z (a : Int) b) (updC C 2 (updI (C 2) Z (100 + (N : Int)))) nm (tsG g T (some s)) := by
    rw [cs']
    refine y2.see mo (Int.le_refl _) (fun q hq => ?_) (fun _ _ => rfl) (by obtain ⟨-, -, -, -, -, -, -, -, R2⟩ := id y2; exact R2.1) (fun _ _ => rfl)
    by_cases w : 1608 + 72 * T ≤ q ∧ q < 1680 + 72 * T
    · have hq2 : q = 1610 + 72 * T ∨ q = 1614 + 72 * T := by
        rcases hq with z | z | z | ⟨t, z | z⟩ <;> omega
      rw [oe q (by omega) (by omega) (by omega), zz q (by omega) w.1 w.2]
      exact v8 q (by omega)
    · exact same q (by omega)
  have m7 : newTaskM m a b len 7 = m 7 := by rw [same 7 (by omega), oe 7 (by omega) (by omega) (by omega), zo 7 (by omega) (by omega) (by omega)]
  have m3' : newTaskM m a b len 3 = m 3 + 1 := by rw [same 3 (by omega), oe 3 (by omega) (by omega) (by omega), z3]
  have cc : ∀ j, (488 ≤ j ∨ j = 3) → (j < 488 + 9 * T ∨ 497 + 9 * T ≤ j) → atC c T N Z (a : Int) b j = c j := fun j h1 h2 => by
    rw [cs]
    unfold adE asC
    rw [updI_n (by omega), updI_n (by omega), updI_n (by omega), updI_n (by omega), updI_n (by omega)]
    exact to j (by omega) h2
  have gg : ∀ j, 180 ≤ j → ¬ j = 180 + 2 * T → ¬ j = 181 + 2 * T → tsG g T (some s) j = g j := fun j _ h2 h3 => by unfold tsG; rw [updO_n h3, updO_n h2]
  refine ⟨y3, by rw [cc 3 (Or.inr rfl) (by omega), m7]; exact hK.1, fun q hq => ?_⟩
  rw [m3'] at hq
  by_cases w : q = T
  · subst w
    have e493 : atC c q N Z (a : Int) b = tsC (adE (asC (updI c 2 ((q : Int) + 1)) N (a : Int) (q : Int)) Z) q (N : Int) b := rfl
    obtain ⟨a1, a2, a3, a4, a5, a6, a7, a8, a9⟩ := tv (x := adE (asC (updI c 2 ((q : Int) + 1)) N (a : Int) (q : Int)) Z)
    rw [← e493] at a1 a2 a3 a4 a5 a6 a7 a8 a9
    have g0 : tsG g q (some s) (180 + 2 * q) = some s := by unfold tsG; rw [updO_n (by omega), updO_s]
    have g1 : tsG g q (some s) (181 + 2 * q) = some s := by unfold tsG; rw [updO_s]
    refine ⟨⟨?_, ?_, ?_, ?_, ?_, ?_, s, hi, n, P, P + len, ?_, ?_, g0, hL⟩, fun _ _ => ⟨v8 _ (by omega), 0, P, P + len, ?_, ?_, ?_, ?_, Or.inr ⟨by omega, s, hi, n, g1, hL⟩⟩⟩
    · rw [a1, v8 _ (by omega)]
    · rw [a3, v2]
    · rw [a4, v8 _ (by omega)]
    · rw [a5, v8 _ (by omega)]
    · rw [a6, v1]
    · rw [a8, v8 _ (by omega)]
    · rw [v4]; exact hP
    · rw [v5, hP]; omega
    · rw [v6]; rfl
    · rw [v5, hP]; omega
    · rw [v3]; exact hP
    · rw [a7, Nat.add_zero, v7]
  · obtain ⟨b1, b2⟩ := hK.2 q (by omega)
    have mm : ∀ j, 1608 + 72 * q ≤ j → j < 1680 + 72 * q → newTaskM m a b len j = m j := fun j h1 h2 => by
      rw [same j (by omega), oe j (by omega) (by omega) (by omega), zo j (by omega) (by omega) (by omega)]
    exact ⟨tkA_c b1 (fun j x y z _ _ => mm j (by omega) (by omega)) (fun j x y z _ => cc j (by omega) (by omega)) (gg _ (by omega) (by omega) (by omega)), fun z => tkC_c (b2 z) (fun j x y w => mm j (by omega) (by omega)) (hT.nn q (by omega)) (cc _ (by omega) (by omega)) (gg _ (by omega) (by omega) (by omega))⟩
end NT
end mg_c4
