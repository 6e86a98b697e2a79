section mg_c6
theorem ctr_become {G : mG} {l : Launch} (d : Nat) {h : mH} {w w2 : Nat} {m pool c c2 : Nat → Int} {S : Nat → Option mO} {C C2 : Nat → Nat → Int} {nm nm2 : Nat → Int64} {g g2 : Nat → Option Nat} (hW : isW h w c C nm g) (hc : (∀ q, InR (c q)) ∧ ∀ k q, InR (C k q)) (hW2 : isW h w2 c2 C2 nm2 g2) (hdis : w + 177 ≤ w2 ∨ w2 + 177 ≤ w) (h2 : CTR m pool S c2 C2 nm2 g2) (hok : mOk m) (hT : TkM m pool 99) :
    RUNM G l (d + 2) mX9_become [.ref w, .ref w2] h (fun v h' => v = none ∧ (∃ c' C' nm' g', isW h' w c' C' nm' g' ∧ CTR m pool S c' C' nm' g') ∧ Same (wBlk w) h h') := by
  obtain ⟨⟨n, T, A, K, L, ⟨Z, e⟩, ⟨F, f⟩, Gg, R⟩, -⟩ := id h2
  have k0 := hok.2.1
  have k1 := hok.2.2.1
  have k2 := hok.2.2.2.1
  have k3 := hok.2.2.2.2.1
  have ez := e.2.1
  have fb := f.2.1
  have sz : szW c2 (fun j => (c2 (8 + j)).toNat) := fun j hj => by
    have hj2 : j = 0 ∨ j = 1 ∨ j = 2 ∨ j = 3 ∨ j = 4 ∨ j = 5 := by omega
    have i0 : iRm 0 = 8 := rfl
    have i1 : iRm 1 = 90 := rfl
    have i2 : iRm 2 = 150 := rfl
    have i3 : iRm 3 = 90 := rfl
    have i4 : iRm 4 = 90 := rfl
    have i5 : iRm 5 = 90 := rfl
    have e8 := n.2.2.2.1
    have e9 := n.2.2.2.2
    have e10 := e.1
    have e11 := f.1.1
    have e12 := f.1.2.1
    have e13 := f.1.2.2
    rcases hj2 with rfl | rfl | rfl | rfl | rfl | rfl
    · show c2 8 = (((c2 8).toNat : Nat) : Int) ∧ (c2 8).toNat ≤ iRm 0
      rw [i0]; omega
    · show c2 9 = (((c2 9).toNat : Nat) : Int) ∧ (c2 9).toNat ≤ iRm 1
      rw [i1]; omega
    · show c2 10 = (((c2 10).toNat : Nat) : Int) ∧ (c2 10).toNat ≤ iRm 2
      rw [i2]; omega
    · show c2 11 = (((c2 11).toNat : Nat) : Int) ∧ (c2 11).toNat ≤ iRm 3
      rw [i3]; omega
    · show c2 12 = (((c2 12).toNat : Nat) : Int) ∧ (c2 12).toNat ≤ iRm 4
      rw [i4]; omega
    · show c2 13 = (((c2 13).toNat : Nat) : Int) ∧ (c2 13).toNat ≤ iRm 5
      rw [i5]; omega
  have hb : ∀ q, q < (m 3).toNat → c2 (496 + 9 * q) = 0 ∨ c2 (496 + 9 * q) = 1 := fun q hq => by
    rw [(K q (by omega)).2]
    exact (hT.2 q (by omega)).1.2.2.1
  have y := cb_World (G := G) (l := l) d hW hc.1 hW2 hdis R.1 sz (N := (m 1).toNat) (S := (m 0).toNat) (K := (m 3).toNat) (by rw [n.1]; omega) (by omega) (by rw [n.2.1]; omega) (by omega) (by rw [n.2.2.1]; omega) (by omega) hb
  refine y.mono (fun v h' q => ?_)
  obtain ⟨q1, q2, q3⟩ := q
  refine ⟨q1, ⟨_, _, _, _, q2, ?_⟩, q3⟩
  refine ctr_c h2 hok (fun q hq => wbC_at (by omega)) ⟨wbC_r hc.1 R.1, wbD_r hc.2 R.2⟩ (fun k hk => wbD_at (by decide) ?_) (fun k hk => wbD_at (by decide) ?_) (fun k hk => wbD_at (by decide) ?_) (fun k hk => ⟨wbD_at (by decide) ?_, wbD_at (by decide) ?_, wbD_at (by decide) ?_⟩) (fun t ht => ?_) (fun t ht => ?_) (fun j h1 hj => ?_)
  · show k < (c2 8).toNat
    have := n.2.2.2.1; omega
  · show k < (c2 9).toNat
    omega
  · show k < (c2 10).toNat
    omega
  · show k < (c2 11).toNat
    omega
  · show k < (c2 12).toNat
    have a := f.1.1; have b := f.1.2.1; omega
  · show k < (c2 13).toNat
    have a := f.1.1; have b := f.1.2.2; omega
  · unfold mixL; rw [if_pos (by omega)]
  · unfold wbG mixO mixE
    rw [if_neg (by omega), if_pos ⟨by omega, by omega⟩]
  · unfold wbG mixO
    rw [if_pos ⟨h1, by omega⟩]
end mg_c6
