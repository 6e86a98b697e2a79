section mg_50
section IW
variable {h h' : mH} {w : Nat} {c : Nat → Int} {C : Nat → Nat → Int} {nm : Nat → Int64} {g : Nat → Option Nat}
theorem isW.ofI (k : isW h w c C nm g) {j : Nat} (hj : j < 6) {z : Int} {f : Nat → Int} (S : Same (iBlk (wA w (iAd j))) h h') (hI : isI h' (wA w (iAd j)) (iRm j) z f) : isW h' w (updI c (8 + j) z) (updC C j f) nm g := by
  have hr := iAd_r (k := j)
  obtain ⟨k0, k1, k2, k3, k4, k5, k6, k7, k8, k9⟩ := k
  have nb : ∀ b, b ≠ wA w (iAd j) → b ≠ wA w (iAd j) + 1 → hGet h' b = hGet h b := fun b h1 h2 => S.2.2.2 b (fun q => q.elim h1 h2)
  refine ⟨by rw [S.1]; exact k0, ?_, ?_, ?_, ?_, ?_, fun q hq => ?_, fun q hq => ?_, fun q hq => ?_, fun q hq => ?_⟩
  · rw [nb _ (by unfold wA; omega) (by unfold wA; omega), k1]; unfold wFs; rw [updI_n (by omega), updI_n (by omega), updI_n (by omega), updI_n (by omega)]
  · exact (nb _ (by unfold wA; omega) (by unfold wA; omega)).trans k2
  · exact (nb _ (by unfold wA; omega) (by unfold wA; omega)).trans k3
  · exact (nb _ (by unfold wA; omega) (by unfold wA; omega)).trans k4
  · rw [nb _ (by unfold wA; omega) (by unfold wA; omega), k5]; unfold uFs; rw [updI_n (by omega)]
  · by_cases e : q = j
    · subst e
      rw [updI_s, updC_s]; exact hI
    · have := iAd_d q hq j hj e
      rw [updI_n (by omega), updC_n e]
      exact (k6 q hq).kept S (fun x => by unfold iBlk wA at x; omega) (fun x => by unfold iBlk wA at x; omega)
  · rw [nb _ (by unfold wA wT; omega) (by unfold wA wT; omega), k7 q hq]; unfold tFs; rw [updI_n (by omega), updI_n (by omega), updI_n (by omega)]
  · rw [nb _ (by unfold wA wS; omega) (by unfold wA wS; omega), k8 q hq]; unfold sFs; rw [updI_n (by omega), updI_n (by omega), updI_n (by omega)]
  · rw [nb _ (by unfold wA wK; omega) (by unfold wA wK; omega), k9 q hq]; unfold kFs; rw [updI_n (by omega), updI_n (by omega), updI_n (by omega), updI_n (by omega), updI_n (by omega), updI_n (by omega), updI_n (by omega), updI_n (by omega), updI_n (by omega)]
end IW
end mg_50
