section RDNS
variable {G : mG} {l : Launch} {z : Int} {f : Nat → Int} {a n : Nat}
set_option maxHeartbeats 4000000 in
theorem rdn_succ (hz : 0 ≤ z ∧ z ≤ 120) (hf : bytesOk f) (hR : RDN G l z f a n) : RDN G l z f a (n + 1) := by
  intro w it bh gd h p o q hg hw hit hn q1 q2 q3 hp1 ho1 hD ha
  have hib : it = true → bh = false := fun g => (hit.mp g).2
  have hf' : ∀ q, InR (f q) := fun q => by have := hf q; exact ⟨by omega, by omega⟩
  have ho : InR (o : Int) := ⟨by omega, by omega⟩
  have hF0 : hereC p z f = hereF f z q.1 := by rw [q1]; exact hereC_f (by omega) hz.2
  have hgd : InR gd := by
    cases bh
    · rw [hg.2 rfl]; decide
    · rw [hg.1 rfl]; decide
  have mb : mbP (hereC p z f) w gd o ↔ stepOk (hereF f z q.1) it bh q := by rw [hF0]; exact mbP_so hg hit q3
  by_cases so : stepOk (hereF f z q.1) it bh q
  · have m := mb.mpr so
    have hlt : (p : Int) < z := hereC_lt (f := f) (mbP_n m)
    have ck : clip f z p = hereC p z f := hereC_n hz.2 rfl (mbP_n m)
    obtain ⟨kd, hkd⟩ : ∃ kd, hereC p z f = kd := ⟨_, rfl⟩
    rw [hkd] at m ck
    have hF : hereF f z q.1 = kd := by rw [← hF0]; exact hkd
    refine rs_sw (G := G) (l := l) (3 * n + 5) hD ⟨by omega, by omega⟩ ⟨by decide, by decide⟩ ho ⟨by omega, by omega⟩ hf' ha (br := (w : Int)) (gd := gd) ⟨by omega, by omega⟩ hgd hkd m (fun tgt h1 hT D1 O1 e1 e2 e3 e4 => ?_)
    have lo := hD.lo
    have F1 : FrR a h h1 := ⟨e1, by omega, by omega, e4⟩
    obtain ⟨s1, s2, s3, s4, s5, s6, s7, s8⟩ := rdn_simple (G := G) (l := l) (n := n) (w := w) hz hf hib ha q1 q2 q3 hlt ho1 ck hF so D1 O1 F1 e2 (by omega) (br := (w : Int)) (gd := gd) ⟨by omega, by omega⟩ (3 * n + 4)
    rcases hT with ⟨k, rfl⟩ | ⟨k, rfl⟩ | ⟨k, rfl⟩ | ⟨k, rfl⟩ | ⟨k, rfl⟩ | ⟨k, rfl⟩ | ⟨k, rfl⟩ | ⟨k, rfl⟩ | ⟨k, rfl⟩ | ⟨k, rfl⟩
    · exact s1 k
    · exact s2 k
    · subst k
      exact rdn_take hR hz hf hw (fun g => by cases bh with | true => rw [if_pos rfl] at hn; omega | false => rw [if_neg (by decide)] at hn; omega) ha q1 q2 q3 hlt ho1 ck hF so D1 O1 F1 e2 (by omega)
    · exact s3 k
    · exact s4 k
    · exact s5 k
    · subst k
      have bf : bh = false := by
        cases hb : bh with
        | false => rfl
        | true =>
          have g1 := hg.1 hb
          rw [g1] at m
          exact (mbP_63 m).elim
      subst bf
      rw [if_neg (by decide)] at hn
      exact rdn_if hR hz hf hw (by omega) ha q1 q2 q3 hlt ho1 ck hF so D1 O1 F1 e2 (by omega)
    · exact s6 k
    · exact s7 k
    · exact s8 (mbP_46 m ⟨k.1, k.2.1, k.2.2.1, k.2.2.2.1, k.2.2.2.2.1, k.2.2.2.2.2.1, k.2.2.2.2.2.2.1, k.2.2.2.2.2.2.2.1, k.2.2.2.2.2.2.2.2⟩)
  · have m := fun g => so (mb.mp g)
    refine ((rd_stepNot (G := G) (l := l) (3 * n + 6) hD ⟨by omega, by omega⟩ ⟨by decide, by decide⟩ ho ⟨by omega, by omega⟩ hf' (br := (w : Int)) (gd := gd) ⟨by omega, by omega⟩ hgd m)).mono (fun v h' g => ?_)
    obtain ⟨rfl, g1, g2⟩ := g
    rw [ftE_n] at g1
    have eR : stepN f z (n + 1) w it bh q = (false, failF q.1 q) := by rw [stepN_s, stepR_n so]
    have e2 := failF_v (p := q.1) q2
    have sz := g2.2.1
    rw [eR]
    exact ⟨none, rfl, FrR.sm g2, Or.inr ⟨rfl, z, p, o, g1, ⟨⟨hz.1, Int.le_refl _⟩, by dsimp only; omega, by dsimp only; omega⟩, ⟨by omega, by omega⟩, by omega, by rw [e2]; omega, Or.inl ⟨rfl, by rw [e2]; exact q1.symm⟩⟩⟩
end RDNS
