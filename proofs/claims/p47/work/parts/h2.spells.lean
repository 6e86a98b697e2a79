/-! ===== what is spelled, whatever it is, on both ===== -/
theorem naL_le {sr : Nat → Int} : ∀ (n p : Nat) (v : Int), 0 ≤ v → 0 ≤ naL sr n p v ∧ naL sr n p v < (v + 1) * tenP n
  | 0, p, v, h => by unfold naL tenP; omega
  | n + 1, p, v, h => by
    have t := tenP_1 n
    unfold naL
    split
    · rename_i c
      have ih := naL_le (sr := sr) n (p + 1) (10 * v + sr p - 48) (by omega)
      refine ⟨ih.1, Int.lt_of_lt_of_le ih.2 ?_⟩
      show (10 * v + sr p - 48 + 1) * tenP n ≤ (v + 1) * (10 * tenP n)
      rw [← Int.mul_assoc]
      exact Int.mul_le_mul_of_nonneg_right (by omega) (by omega)
    · refine ⟨h, ?_⟩
      have h1 : 1 ≤ tenP (n + 1) := tenP_1 (n + 1)
      have h2 : (v + 1) * 1 ≤ (v + 1) * tenP (n + 1) := Int.mul_le_mul_of_nonneg_left h1 (by omega)
      omega
theorem naL_6 {sr : Nat → Int} {n p : Nat} (hn : n ≤ 5) : rng6 (naL sr n p 0) := by
  have y := naL_le (sr := sr) n p 0 (by decide)
  have t : tenP n ≤ 100000 := by
    match n, hn with
    | 0, _ => decide
    | 1, _ => decide
    | 2, _ => decide
    | 3, _ => decide
    | 4, _ => decide
    | 5, _ => decide
  exact ⟨by omega, by omega⟩
theorem sgV_6 {sr : Nat → Int} {p : Nat} : rng6 (sgV sr p) := by
  unfold sgV
  split
  · have y := naL_6 (sr := sr) (n := 5) (p := p + 1) (by decide)
    exact ⟨by omega, by omega⟩
  · exact naL_6 (by decide)
section WX
variable {S : Nat → Option mO} {sr : Nat → Int}
theorem stA_wX {cl : Nat → Nat → Nat → Nat → Prop} {a hi p e : Nat} {nx : Option Nat} (hsr : ∀ q, 0 ≤ sr q ∧ sr q ≤ 127) (hcl : ∀ b q r, cl b hi q r → ∀ F t, 2 * (r - q) + 2 ≤ F → ∃ L, wX S F true t b L) (k : stA S sr cl a nx hi p e) : ∀ F t, 2 * (e - p) + 1 ≤ F → ∃ L, wX S F false t a L := by
  intro F t hF
  obtain ⟨F, rfl⟩ : ∃ F', F = F' + 1 := ⟨F - 1, by omega⟩
  by_cases h8 : 8 < t
  · exact ⟨[], Or.inl ⟨h8, rfl⟩⟩
  obtain ⟨-, num, vl, y, inn, hS, k⟩ := k
  have hk : InR (sr p) := by have := hsr p; exact ⟨by omega, by omega⟩
  have h1 := hsr (p + 1)
  rcases k with ⟨c, c1, c2, c3, rfl, rfl⟩ | ⟨c, c1, rfl⟩ | ⟨c, q, c1, rfl, c2⟩ | ⟨c, c1, rfl⟩ | ⟨c, q, c1, c2, c3, rfl, rfl⟩ | ⟨c, c1, c2, rfl⟩ | ⟨c, c1⟩
  · exact ⟨_, Or.inr ⟨by omega, sr p, _, _, _, _, _, hS, hk, ⟨(fun _ => ⟨⟨⟨by omega, by omega⟩, sgV_6⟩, rfl⟩), (fun z => by exfalso; omega), (fun z => by exfalso; omega), (fun z => by exfalso; omega), (fun z => by exfalso; omega), (fun z => by exfalso; omega), (fun z1 z2 z3 z4 z5 z6 z7 => by exfalso; omega)⟩⟩⟩
  · exact ⟨_, Or.inr ⟨by omega, sr p, _, _, _, _, _, hS, hk, ⟨(fun z => by exfalso; omega), (fun _ => ⟨naL_6 (by decide), rfl⟩), (fun z => by exfalso; omega), (fun z => by exfalso; omega), (fun z => by exfalso; omega), (fun z => by exfalso; omega), (fun z1 z2 z3 z4 z5 z6 z7 => by exfalso; omega)⟩⟩⟩
  · obtain ⟨d1, d2, -⟩ := c1
    rcases c2 with ⟨rfl, -, rfl⟩ | ⟨-, r, b, e1, e2, -, rfl, rfl, -⟩
    · exact ⟨_, Or.inr ⟨by omega, sr p, _, _, _, _, _, hS, hk, ⟨(fun z => by exfalso; omega), (fun z => by exfalso; omega), (fun _ => Or.inl ⟨rfl, rfl⟩), (fun z => by exfalso; omega), (fun z => by exfalso; omega), (fun z => by exfalso; omega), (fun z1 z2 z3 z4 z5 z6 z7 => by exfalso; omega)⟩⟩⟩
    · obtain ⟨L2, hL⟩ := hcl b (q + 1) r e1 F (t + 1) (by omega)
      exact ⟨_, Or.inr ⟨by omega, sr p, _, _, _, _, _, hS, hk, ⟨(fun z => by exfalso; omega), (fun z => by exfalso; omega), (fun _ => Or.inr ⟨b, L2, rfl, hL, rfl⟩), (fun z => by exfalso; omega), (fun z => by exfalso; omega), (fun z => by exfalso; omega), (fun z1 z2 z3 z4 z5 z6 z7 => by exfalso; omega)⟩⟩⟩
  · exact ⟨_, Or.inr ⟨by omega, sr p, _, _, _, _, _, hS, hk, ⟨(fun z => by exfalso; omega), (fun z => by exfalso; omega), (fun z => by exfalso; omega), (fun _ => rfl), (fun z => by exfalso; omega), (fun z => by exfalso; omega), (fun z1 z2 z3 z4 z5 z6 z7 => by exfalso; omega)⟩⟩⟩
  · exact ⟨_, Or.inr ⟨by omega, sr p, _, _, _, _, _, hS, hk, ⟨(fun z => by exfalso; omega), (fun z => by exfalso; omega), (fun z => by exfalso; omega), (fun z => by exfalso; omega), (fun _ => ⟨naL_6 (by decide), rfl⟩), (fun z => by exfalso; omega), (fun z1 z2 z3 z4 z5 z6 z7 => by exfalso; omega)⟩⟩⟩
  · exact ⟨_, Or.inr ⟨by omega, sr p, _, _, _, _, _, hS, hk, ⟨(fun z => by exfalso; omega), (fun _ => ⟨⟨by omega, by omega⟩, rfl⟩), (fun z => by exfalso; omega), (fun z => by exfalso; omega), (fun z => by exfalso; omega), (fun z => by exfalso; omega), (fun z1 z2 z3 z4 z5 z6 z7 => by exfalso; omega)⟩⟩⟩
  · exact ⟨_, Or.inr ⟨by omega, sr p, _, _, _, _, _, hS, hk, ⟨(fun z => by exfalso; omega), (fun z => by exfalso; omega), (fun z => by exfalso; omega), (fun z => by exfalso; omega), (fun z => by exfalso; omega), (fun z => by exfalso; omega), (fun _ _ _ _ _ _ _ => rfl)⟩⟩⟩
theorem stQ_wX {cl : Nat → Nat → Nat → Nat → Prop} {a hi p e : Nat} {nx : Option Nat} (hsr : ∀ q, 0 ≤ sr q ∧ sr q ≤ 127) (hcl : ∀ b q r, cl b hi q r → ∀ F t, 2 * (r - q) + 2 ≤ F → ∃ L, wX S F true t b L) (k : stQ S sr cl a nx hi p e) : ∀ F t, 2 * (e - p) + 1 ≤ F → ∃ L, wX S F false t a L := by
  rcases k with k | ⟨-, c, c1, c2, q, b, y, nx2, hS, c3, c4, -, k⟩
  · exact stA_wX hsr hcl k
  · intro F t hF
    obtain ⟨F, rfl⟩ : ∃ F', F = F' + 1 := ⟨F - 1, by omega⟩
    by_cases h8 : 8 < t
    · exact ⟨[], Or.inl ⟨h8, rfl⟩⟩
    have c5 := sgnS_lt c3
    have c6 := stepT_lt (stA_t (st := fun _ _ => True) (fun _ _ _ _ => trivial) k)
    obtain ⟨L2, hL⟩ := stA_wX hsr hcl k F (t + 1) (by omega)
    have h1 := hsr (p + 1)
    exact ⟨_, Or.inr ⟨by omega, 63, _, _, _, _, _, hS, by decide, ⟨(fun z => by exfalso; omega), (fun z => by exfalso; omega), (fun z => by exfalso; omega), (fun z => by exfalso; omega), (fun z => by exfalso; omega), (fun _ => ⟨⟨⟨by omega, by omega⟩, sgV_6⟩, b, L2, rfl, hL, rfl⟩), (fun z1 z2 z3 z4 z5 z6 z7 => by exfalso; omega)⟩⟩⟩
theorem stL_wX (hsr : ∀ q, 0 ≤ sr q ∧ sr q ≤ 127) : ∀ (n : Nat) (it : Bool) (o a hi p E : Nat), stL S sr n it o a hi p E → ∀ F t, 2 * (E - p) + 2 ≤ F → ∃ L, wX S F true t a L
  | 0, _, _, _, _, _, _, h => h.elim
  | n + 1, it, o, a, hi, p, E, h => by
    intro F t hF
    obtain ⟨F, rfl⟩ : ∃ F', F = F' + 1 := ⟨F - 1, by omega⟩
    obtain ⟨nx, mid, e, o', h1, h2, h3, h4⟩ := h
    obtain ⟨⟨kd, num, vl, y, inn, h5⟩, h6⟩ := stK_o h1
    have st : ∀ F t, 2 * (e - p) + 1 ≤ F → ∃ L, wX S F false t a L := by
      rcases h1 with ⟨k, -⟩ | ⟨-, -, c, -, -, num, vl, y, inn, hS⟩ | ⟨-, -, c, -, -, num, vl, y, inn, hS⟩
      · exact stQ_wX hsr (fun b q r z F t hF => stL_wX hsr n false 0 b _ q r z F t hF) k
      all_goals
        intro F t hF
        obtain ⟨F, rfl⟩ : ∃ F', F = F' + 1 := ⟨F - 1, by omega⟩
        by_cases h8 : 8 < t
        · exact ⟨[], Or.inl ⟨h8, rfl⟩⟩
        · exact ⟨_, Or.inr ⟨by omega, _, _, _, _, _, _, hS, by decide, ⟨(fun z => by exfalso; omega), (fun z => by exfalso; omega), (fun z => by exfalso; omega), (fun z => by exfalso; omega), (fun z => by exfalso; omega), (fun z => by exfalso; omega), (fun _ _ _ _ _ _ _ => rfl)⟩⟩⟩
    rcases h4 with ⟨rfl, rfl⟩ | ⟨h7, -, b, rfl, -, h8⟩
    · obtain ⟨L1, w1⟩ := st F t (by omega)
      exact ⟨_, kd, num, vl, y, inn, none, L1, h5, w1, Or.inl ⟨rfl, rfl⟩⟩
    · obtain ⟨L1, w1⟩ := st F t (by omega)
      obtain ⟨L2, w2⟩ := stL_wX hsr n it o' b hi (e + 1) E h8 F t (by omega)
      exact ⟨_, kd, num, vl, y, inn, some b, L1, h5, w1, Or.inr ⟨b, L2, rfl, w2, rfl⟩⟩
end WX
section JD
variable {sg : Bool} {G : mG} {l : Launch} {x y n : Nat} {h : mH}
end JD
