section mg_9o
section OK
variable {z : Int} {f : Nat → Int}
theorem ok_name {q : PS} (h0 : 0 ≤ q.1) (hz : z ≤ 120) (he : q.2.1 = -1) : ok2 z (nmM z f (q.1, -1)) (aR f z q) := by
  by_cases h : nameB f z q
  · have hR : (aR f z q).1 = true := decide_eq_true h
    obtain ⟨n1, n2, n3⟩ := aR_rd h0 hR
    have e := rnL_w hz n1
    refine Or.inl ⟨hR, ?_, by rw [n3]; exact he⟩
    unfold nmM; dsimp only
    rw [hereC_f h0 hz, if_pos h]
    rw [show ((q.1.toNat : Nat) : Int) = q.1 by omega] at e
    rw [e]
    dsimp only
    rw [show (((aR f z q).2.1.toNat : Nat) : Int) = (aR f z q).2.1 by omega]
  · have hR : (aR f z q).1 = false := decide_eq_false h
    have e : (aR f z q).2 = failF q.1 q := by
      show nameF f z q = _
      unfold nameF; rw [if_neg h]
    have e2 : (failF q.1 q).2.1 = q.1 := by unfold failF; dsimp only; rw [he, if_pos (by decide)]
    refine Or.inr ⟨hR, ?_, by rw [e, e2]; exact h0⟩
    unfold nmM; dsimp only
    rw [hereC_f h0 hz, if_neg h, e, e2, ftE_n]
end OK
end mg_9o
