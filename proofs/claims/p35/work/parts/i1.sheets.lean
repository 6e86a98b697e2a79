/-! ===== the class's speller writes what the text says ===== -/
section NB
variable {sr : Nat → Int} {p q e k : Nat}
def nbr (sr : Nat → Int) (p e : Nat) : Prop := ∀ j, p ≤ j → j < e → ¬ sr j = 123 ∧ ¬ sr j = 125
theorem nbr.tr (a : nbr sr p q) (b : nbr sr q e) : nbr sr p e := fun j x y => by
  by_cases c : j < q
  · exact a j x c
  · exact b j (by omega) y
theorem nbr.ch {c : Int} (hc : sr p = c) (h1 : ¬ c = 123) (h2 : ¬ c = 125) : nbr sr p (p + 1) := fun j x y => by
  obtain rfl : j = p := by omega
  rw [hc]; exact ⟨h1, h2⟩
theorem nbr.num (h : numS sr p e k) : nbr sr p e := fun j x y => by
  have := h.2.2 j x y
  unfold dgP at this; omega
theorem nbr.sgn (h : sgnS sr p e) : nbr sr p e := by
  rcases h with ⟨h1, h2⟩ | h
  · exact (nbr.ch h1 (by decide) (by decide)).tr (nbr.num h2)
  · exact nbr.num h
theorem nbr.nam (h : namS sr p e) : nbr sr p e := fun j x y => by
  have := h.2.2.1 j x y
  unfold isLt at this; omega
theorem nbr.z (h : nbr sr p e) : bdp sr p e = 0 := bdp_z h (Nat.le_refl _)
/-- the head of a ? -/
theorem nbr.ask (h1 : sr p = 63) (h2 : 48 ≤ sr (p + 1) ∧ sr (p + 1) ≤ 55) (h3 : sr (p + 2) = 60) (h4 : sgnS sr (p + 3) q) (h5 : sr q = 58) : nbr sr p (q + 1) := by
  have a1 : nbr sr p (p + 1) := nbr.ch h1 (by decide) (by decide)
  have a2 : nbr sr (p + 1) (p + 2) := nbr.ch (p := p + 1) rfl (by omega) (by omega)
  have a3 : nbr sr (p + 2) (p + 3) := nbr.ch (p := p + 2) h3 (by decide) (by decide)
  exact (((a1.tr a2).tr a3).tr (nbr.sgn h4)).tr (nbr.ch h5 (by decide) (by decide))
theorem stepT_bd {st : Nat → Nat → Prop} (hs : ∀ a b, a ≤ b → st a b → bdp sr a b = 0) (k : stepT sr st p e) : bdp sr p e = 0 := by
  rcases k with ⟨k1, k2, k3, k4⟩ | ⟨k1, k2⟩ | ⟨k1, q, k2, k3⟩ | ⟨k1, k2⟩ | ⟨k1, q, k2, k3, k4⟩ | ⟨k1, k2, rfl⟩ | ⟨k1, rfl⟩
  · have a1 : nbr sr p (p + 1) := nbr.ch k1 (by decide) (by decide)
    have a2 : nbr sr (p + 1) (p + 2) := nbr.ch (p := p + 1) rfl (by omega) (by omega)
    have a3 : nbr sr (p + 2) (p + 3) := nbr.ch (p := p + 2) k3 (by decide) (by decide)
    exact (((a1.tr a2).tr a3).tr (nbr.sgn k4)).z
  · exact ((nbr.ch k1 (by decide) (by decide)).tr (nbr.num k2)).z
  · have n := (nbr.ch k1 (by decide) (by decide)).tr (nbr.nam k2)
    have l := k2.1
    rcases k3 with ⟨rfl, -⟩ | ⟨k3, r, k4, k5, k6, rfl⟩
    · exact n.z
    · rw [bdp_a (show p ≤ q by omega) (show q ≤ r + 1 by omega), bdp_a (show q ≤ q + 1 by omega) (show q + 1 ≤ r + 1 by omega), bdp_a k5 (show r ≤ r + 1 by omega), n.z, hs _ _ k5 k4, bdp_1, bdp_1, brk_o k3, brk_s k6]
      rfl
  · exact ((nbr.ch k1 (by decide) (by decide)).tr (nbr.nam k2)).z
  · exact (((nbr.ch k1 (by decide) (by decide)).tr (nbr.nam k2)).tr ((nbr.ch k3 (by decide) (by decide)).tr (nbr.num k4))).z
  · have a1 : nbr sr p (p + 1) := nbr.ch k1 (by decide) (by decide)
    have a2 : nbr sr (p + 1) (p + 2) := nbr.ch (p := p + 1) rfl (by unfold dgP at k2; omega) (by unfold dgP at k2; omega)
    exact (a1.tr a2).z
  · exact (nbr.ch k1 (by decide) (by decide)).z
theorem stepQ_bd {st : Nat → Nat → Prop} (hs : ∀ a b, a ≤ b → st a b → bdp sr a b = 0) (k : stepQ sr st p e) : bdp sr p e = 0 := by
  rcases k with k | ⟨k1, k2, k3, q, k4, k5, k6⟩
  · exact stepT_bd hs k
  · have l := stepT_lt k6
    have l2 := sgnS_lt k4
    rw [bdp_a (show p ≤ q + 1 by omega) (show q + 1 ≤ e by omega), (nbr.ask k1 k2 k3 k4 k5).z, stepT_bd hs k6]
    rfl
end NB
theorem stsC_bd {sr : Nat → Int} : ∀ (n p E : Nat), stsC sr n p E → bdp sr p E = 0
  | 0, _, _, k => absurd k id
  | n + 1, p, E, k => by
    obtain ⟨e, k1, k2, k3⟩ := k
    have l := stepQ_lt k1
    have z := stepQ_bd (fun a b _ h => stsC_bd n a b h) k1
    rcases k3 with rfl | ⟨k3, k4, k5⟩
    · exact z
    · rw [bdp_a (show p ≤ e by omega) (show e ≤ E by omega), bdp_a (show e ≤ e + 1 by omega) (show e + 1 ≤ E by omega), z, stsC_bd n _ _ k5, bdp_1, brk_ne (by omega) (by omega)]
      rfl
def DBd (sr : Nat → Int) (D : Int) (p E : Nat) : Prop := ∀ q, p ≤ q → q ≤ E → bdp sr p q ≤ D
theorem DBd.sub {sr : Nat → Int} {D v : Int} {p q e E : Nat} (h : DBd sr D p E) (h1 : p ≤ q) (hv : bdp sr p q = v) (h2 : e ≤ E) : DBd sr (D - v) q e := fun x a b => by
  have y := h x (by omega) (by omega)
  rw [bdp_a h1 a, hv] at y
  omega
theorem DBd.s0 {sr : Nat → Int} {D : Int} {p q e E : Nat} (h : DBd sr D p E) (h1 : p ≤ q) (hv : bdp sr p q = 0) (h2 : e ≤ E) : DBd sr D q e := by
  have y := h.sub h1 hv h2
  rw [show D - 0 = D by omega] at y
  exact y
section SH
variable {S : Nat → Option mO} {sr : Nat → Int}
theorem one_sg {p : Nat} (h : dgP (sr p)) (he : ¬ dgP (sr (p + 1))) : Sg sr p false (p + 1) true (nbLs (sr p - 48)) := by
  have y := num_sg (sr := sr) 1 1 p (by decide) (by decide) (by decide) (fun j hj => by
    obtain rfl : j = 0 := by omega
    exact h) he
  have e : naL sr 1 p 0 = sr p - 48 := (naL_1 (n := 0) h).trans (by show 10 * 0 + sr p - 48 = _; omega)
  rw [e] at y
  exact y
theorem stA_sg {cl : Nat → Nat → Nat → Nat → Prop} {a hi p e : Nat} {nx : Option Nat} {D : Int} (hsr : ∀ q, 0 ≤ sr q ∧ sr q ≤ 127) (he : ¬ dgP (sr e)) (hcl : ∀ b q r, cl b hi q r → r < e → DBd sr (D - 1) q r → ∀ F t : Nat, 2 * (r - q) + 2 ≤ F → (t : Int) + 2 * (D - 1) + 1 ≤ 8 → ∃ L b', wX S F true t b L ∧ Sg sr q false r b' L) (hb : DBd sr D p e) (k : stA S sr cl a nx hi p e) : ∀ F t : Nat, 2 * (e - p) + 1 ≤ F → (t : Int) + 2 * D ≤ 8 → ∃ L b', wX S F false t a L ∧ Sg sr p false e b' L := by
  intro F t hF ht
  obtain ⟨F, rfl⟩ : ∃ F', F = F' + 1 := ⟨F - 1, by omega⟩
  have lt := stepT_lt (stA_t (st := fun _ _ => True) (fun _ _ _ _ => trivial) k)
  have D0 : 0 ≤ D := by
    have := hb p (Nat.le_refl _) (by omega)
    rw [bdp_0] at this
    exact this
  obtain ⟨-, num, vl, y, inn, hS, k⟩ := k
  have hk : InR (sr p) := by have := hsr p; exact ⟨by omega, by omega⟩
  rcases k with ⟨c, c1, c2, c3, rfl, rfl⟩ | ⟨c, c1, rfl⟩ | ⟨c, q, c1, rfl, c2⟩ | ⟨c, c1, rfl⟩ | ⟨c, q, c1, c2, c3, rfl, rfl⟩ | ⟨c, c1, rfl, rfl⟩ | ⟨c, rfl⟩
  all_goals have hd : Sg sr p false (p + 1) false [sr p] := Sg.ch (by rw [c]; decide) (by rw [c]; decide)
  · have s1 := one_sg (sr := sr) (p := p + 1) (by unfold dgP; omega) (by rw [show p + 1 + 1 = p + 2 by omega, c2]; decide)
    have s2 : Sg sr (p + 1 + 1) true (p + 3) false [61] := Sg.c1 (p := p + 2) c2 (by decide) (by decide)
    exact ⟨sr p :: (nbLs (sr (p + 1) - 48) ++ 61 :: nbLs (sgV sr (p + 3))), true, Or.inr ⟨by omega, sr p, _, _, _, _, _, hS, hk, ⟨(fun _ => ⟨⟨⟨by omega, by omega⟩, sgV_6⟩, rfl⟩), (fun z => by exfalso; omega), (fun z => by exfalso; omega), (fun z => by exfalso; omega), (fun z => by exfalso; omega), (fun z => by exfalso; omega), (fun z1 z2 z3 z4 z5 z6 z7 => by exfalso; omega)⟩⟩, hd.tr (s1.tr (s2.tr (sgnS_sg c3 he)))⟩
  · exact ⟨sr p :: nbLs (naL sr 2 (p + 1) 0), true, Or.inr ⟨by omega, sr p, _, _, _, _, _, hS, hk, ⟨(fun z => by exfalso; omega), (fun _ => ⟨naL_6 (by decide), rfl⟩), (fun z => by exfalso; omega), (fun z => by exfalso; omega), (fun z => by exfalso; omega), (fun z => by exfalso; omega), (fun z1 z2 z3 z4 z5 z6 z7 => by exfalso; omega)⟩⟩, hd.tr (numS_sg (by decide) c1 he)⟩
  · obtain ⟨d1, d2, -⟩ := id c1
    have s1 := namS_sg (b := false) c1
    rcases c2 with ⟨rfl, -, rfl⟩ | ⟨c3, r, b, e1, e2, e3, rfl, rfl, -⟩
    · exact ⟨sr p :: nmLs (nmY sr (p + 1) e), false, Or.inr ⟨by omega, sr p, _, _, _, _, _, hS, hk, ⟨(fun z => by exfalso; omega), (fun z => by exfalso; omega), (fun _ => Or.inl ⟨rfl, rfl⟩), (fun z => by exfalso; omega), (fun z => by exfalso; omega), (fun z => by exfalso; omega), (fun z1 z2 z3 z4 z5 z6 z7 => by exfalso; omega)⟩⟩, hd.tr s1⟩
    · have z1 : bdp sr p (q + 1) = 1 := by
        rw [bdp_a (show p ≤ q by omega) (show q ≤ q + 1 by omega), ((nbr.ch c (by decide) (by decide)).tr (nbr.nam c1)).z, bdp_1, brk_o c3]
        rfl
      obtain ⟨L2, b', hL, sg2⟩ := hcl b (q + 1) r e1 (by omega) (hb.sub (by omega) z1 (by omega)) F (t + 1) (by omega) (by omega)
      exact ⟨sr p :: (nmLs (nmY sr (p + 1) q) ++ 123 :: (L2 ++ [125])), false, Or.inr ⟨by omega, sr p, _, _, _, _, _, hS, hk, ⟨(fun z => by exfalso; omega), (fun z => by exfalso; omega), (fun _ => Or.inr ⟨b, L2, rfl, hL, rfl⟩), (fun z => by exfalso; omega), (fun z => by exfalso; omega), (fun z => by exfalso; omega), (fun z1 z2 z3 z4 z5 z6 z7 => by exfalso; omega)⟩⟩, hd.tr (s1.tr ((Sg.c1 c3 (by decide) (by decide)).tr (sg2.tr (Sg.c1 e3 (by decide) (by decide)))))⟩
  · exact ⟨sr p :: nmLs (nmY sr (p + 1) e), false, Or.inr ⟨by omega, sr p, _, _, _, _, _, hS, hk, ⟨(fun z => by exfalso; omega), (fun z => by exfalso; omega), (fun z => by exfalso; omega), (fun _ => rfl), (fun z => by exfalso; omega), (fun z => by exfalso; omega), (fun z1 z2 z3 z4 z5 z6 z7 => by exfalso; omega)⟩⟩, hd.tr (namS_sg c1)⟩
  · exact ⟨sr p :: (nmLs (nmY sr (p + 1) q) ++ 62 :: nbLs (naL sr 2 (q + 1) 0)), true, Or.inr ⟨by omega, sr p, _, _, _, _, _, hS, hk, ⟨(fun z => by exfalso; omega), (fun z => by exfalso; omega), (fun z => by exfalso; omega), (fun z => by exfalso; omega), (fun _ => ⟨naL_6 (by decide), rfl⟩), (fun z => by exfalso; omega), (fun z1 z2 z3 z4 z5 z6 z7 => by exfalso; omega)⟩⟩, hd.tr ((namS_sg c1).tr ((Sg.c1 c2 (by decide) (by decide)).tr (numS_sg (by decide) c3 he)))⟩
  · have g := c1
    unfold dgP at g
    exact ⟨sr p :: nbLs (sr (p + 1) - 48), true, Or.inr ⟨by omega, sr p, _, _, _, _, _, hS, hk, ⟨(fun z => by exfalso; omega), (fun _ => ⟨⟨by omega, by omega⟩, rfl⟩), (fun z => by exfalso; omega), (fun z => by exfalso; omega), (fun z => by exfalso; omega), (fun z => by exfalso; omega), (fun z1 z2 z3 z4 z5 z6 z7 => by exfalso; omega)⟩⟩, hd.tr (one_sg (p := p + 1) c1 he)⟩
  · exact ⟨[sr p], false, Or.inr ⟨by omega, sr p, _, _, _, _, _, hS, hk, ⟨(fun z => by exfalso; omega), (fun z => by exfalso; omega), (fun z => by exfalso; omega), (fun z => by exfalso; omega), (fun z => by exfalso; omega), (fun z => by exfalso; omega), (fun _ _ _ _ _ _ _ => rfl)⟩⟩, hd⟩
theorem stQ_sg {cl : Nat → Nat → Nat → Nat → Prop} {a hi p e : Nat} {nx : Option Nat} {D : Int} (hsr : ∀ q, 0 ≤ sr q ∧ sr q ≤ 127) (he : ¬ dgP (sr e)) (hcl : ∀ b q r, cl b hi q r → r < e → DBd sr (D - 1) q r → ∀ F t : Nat, 2 * (r - q) + 2 ≤ F → (t : Int) + 2 * (D - 1) + 1 ≤ 8 → ∃ L b', wX S F true t b L ∧ Sg sr q false r b' L) (hb : DBd sr D p e) (k : stQ S sr cl a nx hi p e) : ∀ F t : Nat, 2 * (e - p) + 1 ≤ F → (t : Int) + 2 * D + 1 ≤ 8 → ∃ L b', wX S F false t a L ∧ Sg sr p false e b' L := by
  intro F t hF ht
  rcases k with k | ⟨-, c, c1, c2, q, b, y, nx2, hS, c3, c4, -, k⟩
  · exact stA_sg hsr he hcl hb k F t hF (by omega)
  · obtain ⟨F, rfl⟩ : ∃ F', F = F' + 1 := ⟨F - 1, by omega⟩
    have c5 := sgnS_lt c3
    have c6 := stepT_lt (stA_t (st := fun _ _ => True) (fun _ _ _ _ => trivial) k)
    have D0 : 0 ≤ D := by
      have := hb p (Nat.le_refl _) (by omega)
      rw [bdp_0] at this
      exact this
    obtain ⟨L2, b', hL, sg2⟩ := stA_sg hsr he hcl (hb.s0 (show p ≤ q + 1 by omega) (nbr.ask c c1 c2 c3 c4).z (Nat.le_refl _)) k F (t + 1) (by omega) (by omega)
    have hd : Sg sr p false (p + 1) false [63] := Sg.c1 c (by decide) (by decide)
    have s1 := one_sg (sr := sr) (p := p + 1) (by unfold dgP; omega) (by rw [show p + 1 + 1 = p + 2 by omega, c2]; decide)
    have s2 : Sg sr (p + 1 + 1) true (p + 3) false [60] := Sg.c1 (p := p + 2) c2 (by decide) (by decide)
    have s3 := sgnS_sg c3 (by rw [c4]; decide)
    have s4 : Sg sr q true (q + 1) false [58] := Sg.c1 c4 (by decide) (by decide)
    exact ⟨63 :: ((nbLs (sr (p + 1) - 48) ++ 60 :: nbLs (sgV sr (p + 3))) ++ 58 :: L2), b', Or.inr ⟨by omega, 63, _, _, _, _, _, hS, by decide, ⟨(fun z => by exfalso; omega), (fun z => by exfalso; omega), (fun z => by exfalso; omega), (fun z => by exfalso; omega), (fun z => by exfalso; omega), (fun _ => ⟨⟨⟨by omega, by omega⟩, sgV_6⟩, b, L2, rfl, hL, rfl⟩), (fun z1 z2 z3 z4 z5 z6 z7 => by exfalso; omega)⟩⟩, hd.tr ((s1.tr (s2.tr s3)).tr (s4.tr sg2))⟩
theorem stL_sg (hsr : ∀ q, 0 ≤ sr q ∧ sr q ≤ 127) : ∀ (n : Nat) (it : Bool) (o a hi p E : Nat) (D : Int), stL S sr n it o a hi p E → DBd sr D p E → ∀ F t : Nat, 2 * (E - p) + 2 ≤ F → (t : Int) + 2 * D + 1 ≤ 8 → ∃ L b', wX S F true t a L ∧ Sg sr p false E b' L
  | 0, _, _, _, _, _, _, _, h => h.elim
  | n + 1, it, o, a, hi, p, E, D, h => by
    intro hb F t hF ht
    obtain ⟨F, rfl⟩ : ∃ F', F = F' + 1 := ⟨F - 1, by omega⟩
    obtain ⟨nx, mid, e, o', h1, h2, h3, h4⟩ := h
    obtain ⟨⟨kd, num, vl, y, inn, h5⟩, h6⟩ := stK_o h1
    have he := endC_nd h3
    have eE : e ≤ E := by rcases h4 with h4 | h4 <;> omega
    have D0 : 0 ≤ D := by
      have := hb p (Nat.le_refl _) (by omega)
      rw [bdp_0] at this
      exact this
    have hbe : DBd sr D p e := fun q a b => hb q a (by omega)
    have st : bdp sr p e = 0 ∧ ∀ F t : Nat, 2 * (e - p) + 1 ≤ F → (t : Int) + 2 * D + 1 ≤ 8 → ∃ L b', wX S F false t a L ∧ Sg sr p false e b' L := by
      rcases h1 with ⟨k, -⟩ | ⟨-, -, c, rfl, -, num, vl, y, inn, hS⟩ | ⟨-, -, c, rfl, -, num, vl, y, inn, hS⟩
      · exact ⟨stepQ_bd (fun x y _ z => stsC_bd n x y z) (stQ_t (st := stsC sr n) (fun b q r z => stL_tC n 0 b _ q r z) k), stQ_sg hsr he (fun b q r z _ db F t hF ht => stL_sg hsr n false 0 b _ q r (D - 1) z db F t hF ht) hbe k⟩
      all_goals
        refine ⟨by rw [bdp_1, brk_ne (by omega) (by omega)], ?_⟩
        intro F t hF ht
        obtain ⟨F, rfl⟩ : ∃ F', F = F' + 1 := ⟨F - 1, by omega⟩
        exact ⟨_, false, Or.inr ⟨by omega, _, _, _, _, _, _, hS, by decide, ⟨(fun z => by exfalso; omega), (fun z => by exfalso; omega), (fun z => by exfalso; omega), (fun z => by exfalso; omega), (fun z => by exfalso; omega), (fun z => by exfalso; omega), (fun _ _ _ _ _ _ _ => rfl)⟩⟩, Sg.c1 c (by decide) (by decide)⟩
    obtain ⟨z0, st⟩ := st
    obtain ⟨L1, b1, w1, s1⟩ := st F t (by omega) ht
    rcases h4 with ⟨rfl, rfl⟩ | ⟨h7, h9, b, rfl, -, h8⟩
    · exact ⟨_, b1, ⟨kd, num, vl, y, inn, none, L1, h5, w1, Or.inl ⟨rfl, rfl⟩⟩, s1⟩
    · have z1 : bdp sr p (e + 1) = 0 := by
        rw [bdp_a (show p ≤ e by omega) (show e ≤ e + 1 by omega), z0, bdp_1, brk_ne (by omega) (by omega)]
        rfl
      obtain ⟨L2, b2, w2, s2⟩ := stL_sg hsr n it o' b hi (e + 1) E D h8 (hb.s0 (by omega) z1 (Nat.le_refl _)) F t (by omega) ht
      exact ⟨L1 ++ 59 :: L2, b2, ⟨kd, num, vl, y, inn, some b, L1, h5, w1, Or.inr ⟨b, L2, rfl, w2, rfl⟩⟩, s1.tr ((Sg.c1 h9 (by decide) (by decide)).tr s2)⟩
theorem stL_end : ∀ (n : Nat) (it : Bool) (o a hi p E : Nat), stL S sr n it o a hi p E → endC (sr E)
  | 0, _, _, _, _, _, _, h => h.elim
  | n + 1, it, o, a, hi, p, E, h => by
    obtain ⟨nx, mid, e, o', h1, h2, h3, h4⟩ := h
    rcases h4 with ⟨rfl, -⟩ | ⟨-, -, b, -, -, h8⟩
    · exact h3
    · exact stL_end n it o' b hi (e + 1) E h8
end SH
/-- the speller: the class's sheet is that of the model -/
theorem write_sg {G : mG} {l : Launch} {S : Nat → Option mO} {sr : Nat → Int} (hsr : ∀ q, 0 ≤ sr q ∧ sr q ≤ 127) {h0 : mH} {a : Nat} {z : Int} {f : Nat → Int} (hS : ∀ q o, S q = some o → hGet h0 q = some o) (hSd : ∀ q, ¬ S q = none → ¬ dBlk a q) (I0 : isSp h0 a z f) {r : Option Nat} {P E : Nat} (hP : P ≤ E) (hE : E ≤ P + 120) (hb : DBd sr 3 P E) (ht : (P = E ∧ r = none) ∨ (∃ it o b hi n, r = some b ∧ stL S sr n it o b hi P E)) (pap : Nat → Int) :
    ∃ s : (Nat → Int) × Int, shOk s ∧ (s.2 = ((spS sr E (E - P) P false pap 0).2 : Int) ∧ ∀ q : Nat, (q : Int) < s.2 → s.1 q = (spS sr E (E - P) P false pap 0).1 q) ∧ RUNM G l 750 mX5_write [.ref a, va_rf r] h0 (fun v h' => v = some (.int (J s.2)) ∧ isSs h' a s ∧ Same (dBlk a) h0 h') := by
  rcases ht with ⟨rfl, rfl⟩ | ⟨it, o, b, hi, n, rfl, hL⟩
  · refine ⟨(f, 0), (show (0 : Int) ≤ 0 ∧ (0 : Int) ≤ 120 by decide), ⟨?_, fun q hq => ?_⟩, cs_write0 749 I0⟩
    · rw [Nat.sub_self]; rfl
    · exfalso
      have : (q : Int) < 0 := hq
      omega
  · obtain ⟨L, b', hX, sg⟩ := stL_sg hsr n it o b hi P E 3 hL hb 242 0 (by omega) (by decide)
    have e : spLt sr (E - P) P false = L := by
      have y := sg.2 0
      rw [Nat.add_zero] at y
      rw [y]
      show L ++ [] = L
      exact List.append_nil L
    have k1 := spS_ap (pool := sr) (to := E) (endC_nd (stL_end n it o b hi P E hL)) (E - P) P false pap 0 (by omega) (by omega)
    rw [e] at k1
    obtain ⟨k2, k3⟩ := apS_same L f pap 0 (fun q hq => by omega)
    have k1' : apS (pap, 0) L = ((spS sr E (E - P) P false pap 0).1, ((spS sr E (E - P) P false pap 0).2 : Int)) := k1
    refine ⟨apS (f, 0) L, apS_ok _ _ (show (0 : Int) ≤ 0 ∧ (0 : Int) ≤ 120 by decide), ⟨by rw [k2, k1'], fun q hq => ?_⟩, cs_write1 749 I0 (fun h1 m1 m2 => (cs_stepsW hS hSd (t := 0) (by decide) hX m1 m2).deeper (by decide))⟩
    rw [k3 q hq, k1']
