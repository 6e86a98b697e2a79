section mg_84
theorem min_Q {sr : Nat → Int} {steps : Nat → Nat → Prop} (hs : ∀ a b, steps a b → ∀ j, a ≤ j → j < b → minP sr j) {p e : Nat} (h : stepQ sr steps p e) (he : ¬ dgP (sr e)) {j : Nat} (h1 : p ≤ j) (h2 : j < e) : minP sr j := by
  rcases h with h | ⟨k1, k2, k3, q, k4, k5, k6⟩
  · exact min_T hs h he h1 h2
  · intro z
    by_cases c : q + 1 ≤ j
    · exact min_T hs k6 he c h2 z
    · by_cases c2 : j = q
      · subst c2; omega
      · by_cases c3 : p + 3 ≤ j
        · exact min_sgn k4 (by rw [k5]; decide) c3 (by omega) z
        · have : j = p ∨ j = p + 1 ∨ j = p + 2 := by omega
          rcases this with rfl | rfl | rfl <;> omega
theorem min_C {sr : Nat → Int} : ∀ (n p E : Nat), stsC sr n p E → ∀ j, p ≤ j → j < E → minP sr j
  | 0, _, _, h => absurd h id
  | n + 1, p, E, h => by
    obtain ⟨e, k1, k2, k3⟩ := h
    intro j h1 h2
    by_cases c : j < e
    · exact min_Q (fun a b => min_C n a b) k1 (endC_nd k2) h1 c
    · rcases k3 with rfl | ⟨k3, k4, k5⟩
      · omega
      · by_cases c2 : j = e
        · subst c2; intro z; omega
        · exact min_C n _ _ k5 j (by omega) h2
theorem min_K {sr : Nat → Int} : ∀ (n o p E : Nat), stsT sr n o p E → ∀ j, p ≤ j → j < E → minP sr j
  | 0, _, _, _, h => absurd h id
  | n + 1, o, p, E, h => by
    obtain ⟨e, o', k1, k2, k3⟩ := h
    intro j h1 h2
    by_cases c : j < e
    · rcases k1 with ⟨k1, _⟩ | ⟨k1, rfl, _⟩ | ⟨k1, rfl, _⟩
      · exact min_Q (fun a b => min_C n a b) k1 (endC_nd k2) h1 c
      · have : j = p := by omega
        subst this; intro z; omega
      · have : j = p := by omega
        subst this; intro z; omega
    · rcases k3 with rfl | ⟨k3, k4, k5⟩
      · omega
      · by_cases c2 : j = e
        · subst c2; intro z; omega
        · exact min_K n _ _ _ k5 j (by omega) h2
end mg_84
section mg_85
/-! ===== the class: what its world answers ===== -/
/-- every owner is a scope's number, or none -/
def oOk (c : Nat → Int) : Prop := ∀ i, -5 ≤ ownF c i ∧ ownF c i ≤ 59
theorem ownF_t {c : Nat → Int} {t : Nat} (h : (t : Int) < c 0) (h2 : t < 90) : ownF c t = c (33 + 3 * t) := by
  unfold ownF; rw [if_neg (by omega), if_pos ⟨by omega, h, by omega⟩]; congr 1
theorem ownF_s {c : Nat → Int} {s : Nat} (h : (s : Int) < c 1) (h2 : s < 60) : ownF c (100 + (s : Int)) = c (305 + 3 * s) := by
  unfold ownF; rw [if_pos (by omega), if_pos ⟨by omega, by omega, by omega⟩]; congr 1; omega
set_option maxHeartbeats 4000000 in
set_option maxRecDepth 100000 in
theorem cn_isHeld {G : mG} {l : Launch} (d : Nat) {h : mH} {w : Nat} {c : Nat → Int} {C : Nat → Nat → Int} {nm : Nat → Int64} {g : Nat → Option Nat} (hW : isW h w c C nm g) (hc : ∀ q, InR (c q)) {t : Nat} (ht : (t : Int) < c 0) (h2 : t < 90) : RUNM G l (d + 1) mX9_isHeld [.ref w, .int (J (t : Int))] h (fun v h' => v = some (.int (J (b01 (c (32 + 3 * t) = 0)))) ∧ h' = h) := by
  refine (cw_isHeld d hW hc (i := (t : Int)) ⟨by omega, by omega⟩).mono (fun v h' q => ⟨?_, q.2⟩)
  rw [q.1, show ((t : Int)).toNat = t by omega]
  by_cases z : c (32 + 3 * t) = 0
  · rw [b01_t z, b01_t ⟨⟨by omega, ht, by omega⟩, z⟩]
  · rw [b01_f z, b01_f (fun g => z g.2)]
set_option maxHeartbeats 4000000 in
set_option maxRecDepth 100000 in
theorem cn_isReady {G : mG} {l : Launch} (d : Nat) {h : mH} {w : Nat} {c : Nat → Int} {C : Nat → Nat → Int} {nm : Nat → Int64} {g : Nat → Option Nat} (hW : isW h w c C nm g) (hc : ∀ q, InR (c q)) {t : Nat} (ht : (t : Int) < c 2) (h2 : t < 10) : RUNM G l (d + 1) mX9_isReady [.ref w, .int (J (t : Int))] h (fun v h' => v = some (.int (J (b01 (c (489 + 9 * t) = 0)))) ∧ h' = h) := by
  refine (cw_isReady d hW hc (i := (t : Int)) ⟨by omega, by omega⟩).mono (fun v h' q => ⟨?_, q.2⟩)
  rw [q.1, show ((t : Int)).toNat = t by omega]
  by_cases z : c (489 + 9 * t) = 0
  · rw [b01_t z, b01_t ⟨⟨by omega, ht, by omega⟩, z⟩]
  · rw [b01_f z, b01_f (fun g => z g.2)]
set_option maxHeartbeats 4000000 in
set_option maxRecDepth 100000 in
theorem cn_ownerOf {G : mG} {l : Launch} (d : Nat) {h : mH} {w : Nat} {c : Nat → Int} {C : Nat → Nat → Int} {nm : Nat → Int64} {g : Nat → Option Nat} (hW : isW h w c C nm g) (hc : ∀ q, InR (c q)) {t : Nat} (ht : (t : Int) < c 0) (h2 : t < 90) : RUNM G l (d + 1) mX9_ownerOf [.ref w, .int (J (t : Int))] h (fun v h' => v = some (.int (J (c (33 + 3 * t)))) ∧ h' = h) := by
  have y := cw_ownerOf (G := G) (l := l) d hW hc (i := (t : Int)) ⟨by omega, by omega⟩
  rw [ownF_t ht h2] at y
  exact y
def wiL (c : Nat → Int) (o : Int) : Nat → Int → Bool
  | 0, _ => false
  | n + 1, s => if 0 ≤ s then (if s = o then true else wiL c o n (ownF c (100 + s))) else false
end mg_85
