section mg_50
section IW
variable {h h' : mH} {w : Nat} {c : Nat → Int} {C : Nat → Nat → Int} {nm : Nat → Int64} {g : Nat → Option Nat}
theorem isW.putK0 (k : isW h w c C nm g) {q0 : Nat} (hq0 : q0 < 10) (r : Option Nat) : isW (hPut h (wK w q0) (.inl (7, (kFs c g q0).set 0 (va_rf r)))) w c C nm (updO g (180 + 2 * q0) r) := by
  obtain ⟨k0, k1, k2, k3, k4, k5, k6, k7, k8, k9⟩ := k
  refine ⟨k0, ?_, ?_, ?_, ?_, ?_, fun q hq => ?_, fun q hq => ?_, fun q hq => ?_, fun q hq => ?_⟩
  · rw [hGet_put_ne (by unfold wK; omega) k1]
  · exact hGet_put_ne (by unfold wA wK; omega) k2
  · exact hGet_put_ne (by unfold wA wK; omega) k3
  · exact hGet_put_ne (by unfold wA wK; omega) k4
  · rw [hGet_put_ne (by unfold wA wK; omega) k5]
  · have hr := iAd_r (k := q)
    exact ⟨(k6 q hq).lo, hGet_put_ne (by unfold wA wK; omega) (k6 q hq).gx, hGet_put_ne (by unfold wA wK; omega) (k6 q hq).gc⟩
  · rw [hGet_put_ne (by unfold wK wT; omega) (k7 q hq)]; unfold tFs; rw [updO_n (by omega), updO_n (by omega)]
  · rw [hGet_put_ne (by unfold wK wS; omega) (k8 q hq)]
  · by_cases e : q = q0
    · subst e
      rw [hGet_put_self]; unfold kFs
      simp [updI, updO, updL, List.set]
    · rw [hGet_put_ne (by unfold wK; omega) (k9 q hq)]; unfold kFs; rw [updO_n (by omega), updO_n (by omega)]
theorem isW.putK1 (k : isW h w c C nm g) {q0 : Nat} (hq0 : q0 < 10) (r : Option Nat) : isW (hPut h (wK w q0) (.inl (7, (kFs c g q0).set 1 (va_rf r)))) w c C nm (updO g (181 + 2 * q0) r) := by
  obtain ⟨k0, k1, k2, k3, k4, k5, k6, k7, k8, k9⟩ := k
  refine ⟨k0, ?_, ?_, ?_, ?_, ?_, fun q hq => ?_, fun q hq => ?_, fun q hq => ?_, fun q hq => ?_⟩
  · rw [hGet_put_ne (by unfold wK; omega) k1]
  · exact hGet_put_ne (by unfold wA wK; omega) k2
  · exact hGet_put_ne (by unfold wA wK; omega) k3
  · exact hGet_put_ne (by unfold wA wK; omega) k4
  · rw [hGet_put_ne (by unfold wA wK; omega) k5]
  · have hr := iAd_r (k := q)
    exact ⟨(k6 q hq).lo, hGet_put_ne (by unfold wA wK; omega) (k6 q hq).gx, hGet_put_ne (by unfold wA wK; omega) (k6 q hq).gc⟩
  · rw [hGet_put_ne (by unfold wK wT; omega) (k7 q hq)]; unfold tFs; rw [updO_n (by omega), updO_n (by omega)]
  · rw [hGet_put_ne (by unfold wK wS; omega) (k8 q hq)]
  · by_cases e : q = q0
    · subst e
      rw [hGet_put_self]; unfold kFs
      simp [updI, updO, updL, List.set]
    · rw [hGet_put_ne (by unfold wK; omega) (k9 q hq)]; unfold kFs; rw [updO_n (by omega), updO_n (by omega)]
end IW
end mg_50
