section mg_50
section IW
variable {h h' : mH} {w : Nat} {c : Nat → Int} {C : Nat → Nat → Int} {nm : Nat → Int64} {g : Nat → Option Nat}
theorem isW.putK4 (k : isW h w c C nm g) {q0 : Nat} (hq0 : q0 < 10) (v : Int) : isW (hPut h (wK w q0) (.inl (7, (kFs c g q0).set 4 (.int (J v))))) w (updI c (490 + 9 * q0) v) C nm g := by
  obtain ⟨k0, k1, k2, k3, k4, k5, k6, k7, k8, k9⟩ := k
  refine ⟨k0, ?_, ?_, ?_, ?_, ?_, fun q hq => ?_, fun q hq => ?_, fun q hq => ?_, fun q hq => ?_⟩
  · rw [hGet_put_ne (by unfold wK; omega) k1]; unfold wFs; rw [updI_n (by omega), updI_n (by omega), updI_n (by omega), updI_n (by omega)]
  · exact hGet_put_ne (by unfold wA wK; omega) k2
  · exact hGet_put_ne (by unfold wA wK; omega) k3
  · exact hGet_put_ne (by unfold wA wK; omega) k4
  · rw [hGet_put_ne (by unfold wA wK; omega) k5]; unfold uFs; rw [updI_n (by omega)]
  · have hr := iAd_r (k := q)
    rw [updI_n (by omega)]; exact ⟨(k6 q hq).lo, hGet_put_ne (by unfold wA wK; omega) (k6 q hq).gx, hGet_put_ne (by unfold wA wK; omega) (k6 q hq).gc⟩
  · rw [hGet_put_ne (by unfold wK wT; omega) (k7 q hq)]; unfold tFs; rw [updI_n (by omega), updI_n (by omega), updI_n (by omega)]
  · rw [hGet_put_ne (by unfold wK wS; omega) (k8 q hq)]; unfold sFs; rw [updI_n (by omega), updI_n (by omega), updI_n (by omega)]
  · by_cases e : q = q0
    · subst e
      rw [hGet_put_self]; unfold kFs
      simp [updI, updO, updL, List.set]
    · rw [hGet_put_ne (by unfold wK; omega) (k9 q hq)]; unfold kFs; rw [updI_n (by omega), updI_n (by omega), updI_n (by omega), updI_n (by omega), updI_n (by omega), updI_n (by omega), updI_n (by omega), updI_n (by omega), updI_n (by omega)]
end IW
end mg_50
