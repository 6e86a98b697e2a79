/-! ===== take, task on both ===== -/
/-- what lies in the heap of the steps that were read, and those that were there -/
def grS (S : Nat → Option mO) (h hh : mH) : Nat → Option mO := fun a => if h.2.1 ≤ a ∧ a < hh.2.1 then hGet hh a else S a
section H0
variable {sg : Bool} {x y n : Nat} {h hh h1 h' : mH} {S : Nat → Option mO} {f4 : Int} {m kpm pool pool' : Nat → Int}
theorem grS_old (k : stR y h S) {a : Nat} {o : mO} (e : S a = some o) : grS S h hh a = some o := by
  have := (k a o e).2.2
  unfold grS
  rw [if_neg (by omega)]
  exact e
theorem grS_new {a : Nat} (h1 : h.2.1 ≤ a) (h2 : a < hh.2.1) : grS S h hh a = hGet hh a := by unfold grS; rw [if_pos ⟨h1, h2⟩]
theorem grS_none {a : Nat} (h1 : a < h.2.1) (e : S a = none) : grS S h hh a = none := by unfold grS; rw [if_neg (by omega)]; exact e
theorem stR.gr (k : stR y h S) (hxy : x + 196 ≤ y ∧ y ≤ h.2.1) (F : FrR (kA x 1) h hh) : stR y hh (grS S h hh) := by
  intro a o e
  have f2 := F.2.1
  unfold grS at e
  split at e
  · rename_i c
    exact ⟨e, by omega, c.2⟩
  · obtain ⟨k1, k2, k3⟩ := k a o e
    exact ⟨(F.2.2.2 a k3 (by unfold dBlk kA; omega)).trans k1, k2, by omega⟩
theorem keR.gr {kp : Option Nat} {B T : Int} (k : keR y h S kp f4 kpm pool) (hxy : x + 196 ≤ y ∧ y ≤ h.2.1) (F : FrR (kA x 1) h hh) (hst : stR y h S) (hp : ∀ q : Nat, (q : Int) < m 8 → pool' q = pool q) (hA : f4 = 1 → All kpm pool B T ∧ kpm 8 ≤ m 8) : keR y hh (grS S h hh) kp f4 kpm pool' := by
  have f2 := F.2.1
  rcases k with k | ⟨w, c, C, nm, g, ⟨k1, k2⟩, ⟨k3, k4⟩, k5, k6, k7⟩
  · exact Or.inl k
  · obtain ⟨a1, a2⟩ := hA k2
    exact Or.inr ⟨w, c, C, nm, g, ⟨k1, k2⟩, ⟨k3, by omega⟩, fun a ha => grS_none (by unfold wBlk at ha; omega) (k5 a ha), k6.keep2 F.1 (fun b hb => F.2.2.2 b (by unfold wBlk at hb; omega) (by unfold wBlk at hb; unfold dBlk kA; omega)), ctr_grow k7 a1.1.1 a1.2.1 (fun a o e => grS_old hst e) (fun q hq => hp q (by omega))⟩
theorem tkR.gr {kp tk : Option Nat} (k : tkR y h S kp tk) (hxy : x + 196 ≤ y ∧ y ≤ h.2.1) (F : FrR (kA x 1) h hh) : tkR y hh (grS S h hh) kp tk := by
  have f2 := F.2.1
  rcases k with k | ⟨r, b, f, c, C, nm, g, k1, ⟨k3, k4⟩, k5, k6, k7, k8⟩
  · exact Or.inl k
  · exact Or.inr ⟨r, b, f, c, C, nm, g, k1, ⟨k3, by omega⟩, fun a ha => grS_none (by unfold rBlk at ha; omega) (k5 a ha), k6, k7.keep2 F.1 (fun b hb => F.2.2.2 b (by unfold rBlk at hb; omega) (by unfold rBlk at hb; unfold dBlk kA; omega)), k8⟩
/-- the text that was read lies in the pool -/
theorem stL_pool {ft : Nat → Int} {zt : Int} {len P d N b : Nat} {it : Bool} (hz : zt = (len : Int)) (hd : d ≤ len) (hb : h.2.1 ≤ b) (k : stL (hGet hh) (clip ft zt) N it 0 b hh.2.1 d len) : stL (grS S h hh) (pooledP pool ft P d len) N it 0 b hh.2.1 P (P + (len - d)) := by
  have k1 := stL_c N N (Nat.le_refl _) it 0 b hh.2.1 hh.2.1 d len (Nat.le_refl _) (S' := grS S h hh) (fun q h1 h2 => grS_new (by omega) h2) k
  have k2 := stL_2 (sr := clip ft zt) (sr' := pooledP pool ft P d len) (d := d) (d' := P) N it 0 b hh.2.1 0 (len - d) (fun j _ hj => by
    have y := pooledP_cl (pool := pool) (tape := ft) (p := P) (a := d) (b := len) (i := j) hj hd
    rw [hz, show j + P = P + j by omega, show j + d = d + j by omega]
    exact y) (by rw [Nat.zero_add, show len - d + d = len by omega]; exact k1)
  rw [Nat.zero_add, show len - d + P = P + (len - d) by omega] at k2
  exact k2
end H0
