section mg_b4
/-! ===== a turn, a tick: both sides ===== -/
theorem go_wk {G : mG} {l : Launch} {r : Nat} {h : mH} {T : Nat → mH → Prop} {R : mH → Prop} (go : GOES G l r 0 h T) (f : ∀ k' h', T k' h' → k' < 1000000 ∧ ∃ b f c C nm g, isR h' r b 0 f c C nm g ∧ ∀ h'', isR h'' r b 0 f c C nm g → Same (rBlk r) h' h'' → R h'') : WK G l 12 r h R := by
  refine WK.of (go (fun v h' => v = none ∧ R h') (fun k' h' t o => ?_) none)
  obtain ⟨hk, b, f', c, C, nm, g, hR, k⟩ := f k' h' t
  exact (wk_end (G := G) (l := l) 12 hR hk).mono (fun v h'' w => ⟨w.1, k h'' w.2.1 w.2.2⟩)
theorem psi_k {m : Nat → Int} {k : Nat} {x : Int} (hok : mOk m) (hnc : NC m) (h : psi k m ≤ x) (hx : x ≤ 990000) : k < 1000000 := by
  have co := cnt_r (openB m) (m 0).toNat
  have cc := hnc.cnt hok.2.2.1.1
  have k2 := hok.2.2.2.1
  unfold psi phi at h
  omega
theorem psi_0 {m : Nat → Int} (hok : mOk m) (hnc : NC m) : psi 0 m ≤ 60000 := by
  have co := cnt_r (openB m) (m 0).toNat
  have cc := hnc.cnt hok.2.2.1.1
  have k2 := hok.2.2.2.1
  have k0 := hok.2.1
  unfold psi phi
  omega
theorem nextV_w {m : Nat → Int} (h : 0 ≤ nextV m) (h3 : 0 ≤ m 3) : ∃ q : Nat, nextV m = q ∧ (q : Int) < m 3 ∧ m (1610 + 72 * q) = 0 := by
  unfold nextV at h ⊢
  rcases nx_n (m := m) (m 3).toNat 0 with ⟨e, -⟩ | ⟨w, e, ⟨-, w1, w2⟩, -⟩
  · omega
  · exact ⟨w, e, by omega, of_decide_eq_true w2⟩
section TI
variable {G : mG} {l : Launch} {r : Nat} {pool : Nat → Int} {S : Nat → Option mO} {h0 : mH}
/-- the class between calls, beside the reference's row -/
def BES (r : Nat) (pool : Nat → Int) (S : Nat → Option mO) (h0 : mH) (b : Int) (c4 : Int) (m : Nat → Int) (h : mH) : Prop :=
  ∃ f c C nm g, isR h r b 0 f c C nm g ∧ Same (rBlk r) h0 h ∧ CR m pool S c C nm g ∧ TKR m pool c S g 99 ∧ c 4 = c4
end TI
end mg_b4
