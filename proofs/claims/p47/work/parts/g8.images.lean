/-! ===== image, undo on both ===== -/
theorem fx_held {m pool c : Nat → Int} {S : Nat → Option mO} {C : Nat → Nat → Int} {nm : Nat → Int64} {g : Nat → Option Nat} {B T0 : Int} {N K T Z F : Nat} (hT : CTR m pool S c C nm g) (hA : All m pool B T0) (hX : FX m c C N K T Z F) : cnt (hwB c 0) N = cnt (heldB m) N := by
  obtain ⟨⟨mN, cN, N90⟩, ⟨mK, cK, K1, K60⟩, -, -, -, ⟨hO, hpR, hpO, hoO⟩, -, -, hst2, -⟩ := hX
  have hsc := hA.1.2.1
  have hcT := hT.1.2.1
  refine cnt_congr N (fun q hq => ?_)
  have s1 := hw_eq hpR hcT (i := 0) (by decide) mK K60 (fun t ht => ⟨(hst2 t ht).1, (hst2 t ht).2.2⟩) (t := q) (by omega)
  rw [s1]
  unfold heldInB belowB
  have s2 := hst2 q (by omega)
  have s3 := (wi_up hpR (o := 0) (by decide) 60 K (m (259 + 14 * q)) (by omega) (by omega) (by omega)).mp (wi_0 hpR 60 _ (by omega) (by omega) (by omega) (fun a h1 h2 => ((hsc.2.2 a h2).2 h1).1.1))
  rw [s3, decide_eq_true rfl, Bool.and_true]
theorem kg_held {G : mG} {l : Launch} (d : Nat) {h : mH} {w : Nat} {m pool c : Nat → Int} {S : Nat → Option mO} {C : Nat → Nat → Int} {nm : Nat → Int64} {g : Nat → Option Nat} {B T0 : Int} (hW : isW h w c C nm g) (hT : CTR m pool S c C nm g) (hA : All m pool B T0) : RUNM G l (d + 3) mX9_heldWithin [.ref w, .int (J 0)] h (fun v h' => v = some (.int (J (cnt (heldB m) (m 1).toNat))) ∧ h' = h) := by
  obtain ⟨N, K, T, Z, F, hX⟩ := fx_of hT hA
  have e := fx_held hT hA hX
  obtain ⟨⟨mN, cN, N90⟩, -, -, -, -, ⟨hO, -⟩, -, ⟨hc, -⟩, -⟩ := hX
  have y := cq_heldWithin (G := G) (l := l) d hW hc hO cN N90 (i := 0) (by decide)
  rw [e, show N = (m 1).toNat by omega] at y
  exact y
theorem ctr_r {m pool c : Nat → Int} {S : Nat → Option mO} {C : Nat → Nat → Int} {nm : Nat → Int64} {g : Nat → Option Nat} (hT : CTR m pool S c C nm g) : (∀ q, InR (c q)) ∧ ∀ k q, InR (C k q) := hT.1.2.2.2.2.2.2.2.2
theorem wc0_r : (∀ q, InR (wc0 q)) ∧ ∀ k q, InR (wC0 k q) := by
  refine ⟨fun q => ?_, fun k q => ?_⟩
  · exact inR_up (inR_up (inR_up (inR_up w0_r (by decide)) (by decide)) (by decide)) (by decide) q
  · unfold wC0 updC
    split
    · unfold zerF
      split
      · decide
      · exact w0_r q
    · exact w0_r q
