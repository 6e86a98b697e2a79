section mg_50
section IW
variable {h h' : mH} {w : Nat} {c : Nat → Int} {C : Nat → Nat → Int} {nm : Nat → Int64} {g : Nat → Option Nat}
theorem iBlk_wBlk {j : Nat} {b : Nat} (k : iBlk (wA w (iAd j)) b) : wBlk w b := by
  have hr := iAd_r (k := j)
  unfold iBlk wA at k; unfold wBlk; omega
theorem isW.putw0 (k : isW h w c C nm g) (v : Int) : isW (hPut h w (.inl (9, (wFs w c).set 3 (.int (J v))))) w (updI c 0 v) C nm g := by
  obtain ⟨k0, k1, k2, k3, k4, k5, k6, k7, k8, k9⟩ := k
  refine ⟨k0, ?_, ?_, ?_, ?_, ?_, fun q hq => ?_, fun q hq => ?_, fun q hq => ?_, fun q hq => ?_⟩
  · rw [hGet_put_self]; unfold wFs; simp [updI, List.set]
  · exact hGet_put_ne (by unfold wA; omega) k2
  · exact hGet_put_ne (by unfold wA; omega) k3
  · exact hGet_put_ne (by unfold wA; omega) k4
  · rw [hGet_put_ne (by unfold wA; omega) k5]; unfold uFs; rw [updI_n (by omega)]
  · have hr := iAd_r (k := q)
    rw [updI_n (by omega)]; exact ⟨(k6 q hq).lo, hGet_put_ne (by unfold wA; omega) (k6 q hq).gx, hGet_put_ne (by unfold wA; omega) (k6 q hq).gc⟩
  · rw [hGet_put_ne (by unfold wT; omega) (k7 q hq)]; unfold tFs; rw [updI_n (by omega), updI_n (by omega), updI_n (by omega)]
  · rw [hGet_put_ne (by unfold wS; omega) (k8 q hq)]; unfold sFs; rw [updI_n (by omega), updI_n (by omega), updI_n (by omega)]
  · rw [hGet_put_ne (by unfold wK; omega) (k9 q hq)]; unfold kFs; rw [updI_n (by omega), updI_n (by omega), updI_n (by omega), updI_n (by omega), updI_n (by omega), updI_n (by omega), updI_n (by omega), updI_n (by omega), updI_n (by omega)]
theorem isW.putw1 (k : isW h w c C nm g) (v : Int) : isW (hPut h w (.inl (9, (wFs w c).set 4 (.int (J v))))) w (updI c 1 v) C nm g := by
  obtain ⟨k0, k1, k2, k3, k4, k5, k6, k7, k8, k9⟩ := k
  refine ⟨k0, ?_, ?_, ?_, ?_, ?_, fun q hq => ?_, fun q hq => ?_, fun q hq => ?_, fun q hq => ?_⟩
  · rw [hGet_put_self]; unfold wFs; simp [updI, List.set]
  · exact hGet_put_ne (by unfold wA; omega) k2
  · exact hGet_put_ne (by unfold wA; omega) k3
  · exact hGet_put_ne (by unfold wA; omega) k4
  · rw [hGet_put_ne (by unfold wA; omega) k5]; unfold uFs; rw [updI_n (by omega)]
  · have hr := iAd_r (k := q)
    rw [updI_n (by omega)]; exact ⟨(k6 q hq).lo, hGet_put_ne (by unfold wA; omega) (k6 q hq).gx, hGet_put_ne (by unfold wA; omega) (k6 q hq).gc⟩
  · rw [hGet_put_ne (by unfold wT; omega) (k7 q hq)]; unfold tFs; rw [updI_n (by omega), updI_n (by omega), updI_n (by omega)]
  · rw [hGet_put_ne (by unfold wS; omega) (k8 q hq)]; unfold sFs; rw [updI_n (by omega), updI_n (by omega), updI_n (by omega)]
  · rw [hGet_put_ne (by unfold wK; omega) (k9 q hq)]; unfold kFs; rw [updI_n (by omega), updI_n (by omega), updI_n (by omega), updI_n (by omega), updI_n (by omega), updI_n (by omega), updI_n (by omega), updI_n (by omega), updI_n (by omega)]
theorem isW.putw2 (k : isW h w c C nm g) (v : Int) : isW (hPut h w (.inl (9, (wFs w c).set 5 (.int (J v))))) w (updI c 2 v) C nm g := by
  obtain ⟨k0, k1, k2, k3, k4, k5, k6, k7, k8, k9⟩ := k
  refine ⟨k0, ?_, ?_, ?_, ?_, ?_, fun q hq => ?_, fun q hq => ?_, fun q hq => ?_, fun q hq => ?_⟩
  · rw [hGet_put_self]; unfold wFs; simp [updI, List.set]
  · exact hGet_put_ne (by unfold wA; omega) k2
  · exact hGet_put_ne (by unfold wA; omega) k3
  · exact hGet_put_ne (by unfold wA; omega) k4
  · rw [hGet_put_ne (by unfold wA; omega) k5]; unfold uFs; rw [updI_n (by omega)]
  · have hr := iAd_r (k := q)
    rw [updI_n (by omega)]; exact ⟨(k6 q hq).lo, hGet_put_ne (by unfold wA; omega) (k6 q hq).gx, hGet_put_ne (by unfold wA; omega) (k6 q hq).gc⟩
  · rw [hGet_put_ne (by unfold wT; omega) (k7 q hq)]; unfold tFs; rw [updI_n (by omega), updI_n (by omega), updI_n (by omega)]
  · rw [hGet_put_ne (by unfold wS; omega) (k8 q hq)]; unfold sFs; rw [updI_n (by omega), updI_n (by omega), updI_n (by omega)]
  · rw [hGet_put_ne (by unfold wK; omega) (k9 q hq)]; unfold kFs; rw [updI_n (by omega), updI_n (by omega), updI_n (by omega), updI_n (by omega), updI_n (by omega), updI_n (by omega), updI_n (by omega), updI_n (by omega), updI_n (by omega)]
theorem isW.putw3 (k : isW h w c C nm g) (v : Int) : isW (hPut h w (.inl (9, (wFs w c).set 6 (.int (J v))))) w (updI c 3 v) C nm g := by
  obtain ⟨k0, k1, k2, k3, k4, k5, k6, k7, k8, k9⟩ := k
  refine ⟨k0, ?_, ?_, ?_, ?_, ?_, fun q hq => ?_, fun q hq => ?_, fun q hq => ?_, fun q hq => ?_⟩
  · rw [hGet_put_self]; unfold wFs; simp [updI, List.set]
  · exact hGet_put_ne (by unfold wA; omega) k2
  · exact hGet_put_ne (by unfold wA; omega) k3
  · exact hGet_put_ne (by unfold wA; omega) k4
  · rw [hGet_put_ne (by unfold wA; omega) k5]; unfold uFs; rw [updI_n (by omega)]
  · have hr := iAd_r (k := q)
    rw [updI_n (by omega)]; exact ⟨(k6 q hq).lo, hGet_put_ne (by unfold wA; omega) (k6 q hq).gx, hGet_put_ne (by unfold wA; omega) (k6 q hq).gc⟩
  · rw [hGet_put_ne (by unfold wT; omega) (k7 q hq)]; unfold tFs; rw [updI_n (by omega), updI_n (by omega), updI_n (by omega)]
  · rw [hGet_put_ne (by unfold wS; omega) (k8 q hq)]; unfold sFs; rw [updI_n (by omega), updI_n (by omega), updI_n (by omega)]
  · rw [hGet_put_ne (by unfold wK; omega) (k9 q hq)]; unfold kFs; rw [updI_n (by omega), updI_n (by omega), updI_n (by omega), updI_n (by omega), updI_n (by omega), updI_n (by omega), updI_n (by omega), updI_n (by omega), updI_n (by omega)]
theorem isW.putF (k : isW h w c C nm g) (v : Int) : isW (hPut h (wA w 10) (.inl (0, (uFs w c).set 3 (.int (J v))))) w (updI c 4 v) C nm g := by
  obtain ⟨k0, k1, k2, k3, k4, k5, k6, k7, k8, k9⟩ := k
  refine ⟨k0, ?_, ?_, ?_, ?_, ?_, fun q hq => ?_, fun q hq => ?_, fun q hq => ?_, fun q hq => ?_⟩
  · rw [hGet_put_ne (by unfold wA; omega) k1]; unfold wFs; rw [updI_n (by omega), updI_n (by omega), updI_n (by omega), updI_n (by omega)]
  · exact hGet_put_ne (by unfold wA; omega) k2
  · exact hGet_put_ne (by unfold wA; omega) k3
  · exact hGet_put_ne (by unfold wA; omega) k4
  · rw [hGet_put_self]; unfold uFs; simp [updI, List.set]
  · have hr := iAd_r (k := q)
    rw [updI_n (by omega)]; exact ⟨(k6 q hq).lo, hGet_put_ne (by unfold wA; omega) (k6 q hq).gx, hGet_put_ne (by unfold wA; omega) (k6 q hq).gc⟩
  · rw [hGet_put_ne (by unfold wA wT; omega) (k7 q hq)]; unfold tFs; rw [updI_n (by omega), updI_n (by omega), updI_n (by omega)]
  · rw [hGet_put_ne (by unfold wA wS; omega) (k8 q hq)]; unfold sFs; rw [updI_n (by omega), updI_n (by omega), updI_n (by omega)]
  · rw [hGet_put_ne (by unfold wA wK; omega) (k9 q hq)]; unfold kFs; rw [updI_n (by omega), updI_n (by omega), updI_n (by omega), updI_n (by omega), updI_n (by omega), updI_n (by omega), updI_n (by omega), updI_n (by omega), updI_n (by omega)]
theorem isW.putT0 (k : isW h w c C nm g) {q0 : Nat} (hq0 : q0 < 90) (r : Int64) : isW (hPut h (wT w q0) (.inl (8, (tFs c nm g q0).set 0 (.long r)))) w c C (updL nm q0 r) g := by
  obtain ⟨k0, k1, k2, k3, k4, k5, k6, k7, k8, k9⟩ := k
  refine ⟨k0, ?_, ?_, ?_, ?_, ?_, fun q hq => ?_, fun q hq => ?_, fun q hq => ?_, fun q hq => ?_⟩
  · rw [hGet_put_ne (by unfold wT; omega) k1]
  · exact hGet_put_ne (by unfold wA wT; omega) k2
  · exact hGet_put_ne (by unfold wA wT; omega) k3
  · exact hGet_put_ne (by unfold wA wT; omega) k4
  · rw [hGet_put_ne (by unfold wA wT; omega) k5]
  · have hr := iAd_r (k := q)
    exact ⟨(k6 q hq).lo, hGet_put_ne (by unfold wA wT; omega) (k6 q hq).gx, hGet_put_ne (by unfold wA wT; omega) (k6 q hq).gc⟩
  · by_cases e : q = q0
    · subst e
      rw [hGet_put_self]; unfold tFs
      simp [updI, updO, updL, List.set]
    · rw [hGet_put_ne (by unfold wT; omega) (k7 q hq)]; unfold tFs; rw [updL_n (by omega)]
  · rw [hGet_put_ne (by unfold wS wT; omega) (k8 q hq)]
  · rw [hGet_put_ne (by unfold wK wT; omega) (k9 q hq)]
theorem isW.putT1 (k : isW h w c C nm g) {q0 : Nat} (hq0 : q0 < 90) (r : Option Nat) : isW (hPut h (wT w q0) (.inl (8, (tFs c nm g q0).set 1 (va_rf r)))) w c C nm (updO g (2 * q0) r) := by
  obtain ⟨k0, k1, k2, k3, k4, k5, k6, k7, k8, k9⟩ := k
  refine ⟨k0, ?_, ?_, ?_, ?_, ?_, fun q hq => ?_, fun q hq => ?_, fun q hq => ?_, fun q hq => ?_⟩
  · rw [hGet_put_ne (by unfold wT; omega) k1]
  · exact hGet_put_ne (by unfold wA wT; omega) k2
  · exact hGet_put_ne (by unfold wA wT; omega) k3
  · exact hGet_put_ne (by unfold wA wT; omega) k4
  · rw [hGet_put_ne (by unfold wA wT; omega) k5]
  · have hr := iAd_r (k := q)
    exact ⟨(k6 q hq).lo, hGet_put_ne (by unfold wA wT; omega) (k6 q hq).gx, hGet_put_ne (by unfold wA wT; omega) (k6 q hq).gc⟩
  · by_cases e : q = q0
    · subst e
      rw [hGet_put_self]; unfold tFs
      simp [updI, updO, updL, List.set]
    · rw [hGet_put_ne (by unfold wT; omega) (k7 q hq)]; unfold tFs; rw [updO_n (by omega), updO_n (by omega)]
  · rw [hGet_put_ne (by unfold wS wT; omega) (k8 q hq)]
  · rw [hGet_put_ne (by unfold wK wT; omega) (k9 q hq)]; unfold kFs; rw [updO_n (by omega), updO_n (by omega)]
theorem isW.putT2 (k : isW h w c C nm g) {q0 : Nat} (hq0 : q0 < 90) (r : Option Nat) : isW (hPut h (wT w q0) (.inl (8, (tFs c nm g q0).set 2 (va_rf r)))) w c C nm (updO g (2 * q0 + 1) r) := by
  obtain ⟨k0, k1, k2, k3, k4, k5, k6, k7, k8, k9⟩ := k
  refine ⟨k0, ?_, ?_, ?_, ?_, ?_, fun q hq => ?_, fun q hq => ?_, fun q hq => ?_, fun q hq => ?_⟩
  · rw [hGet_put_ne (by unfold wT; omega) k1]
  · exact hGet_put_ne (by unfold wA wT; omega) k2
  · exact hGet_put_ne (by unfold wA wT; omega) k3
  · exact hGet_put_ne (by unfold wA wT; omega) k4
  · rw [hGet_put_ne (by unfold wA wT; omega) k5]
  · have hr := iAd_r (k := q)
    exact ⟨(k6 q hq).lo, hGet_put_ne (by unfold wA wT; omega) (k6 q hq).gx, hGet_put_ne (by unfold wA wT; omega) (k6 q hq).gc⟩
  · by_cases e : q = q0
    · subst e
      rw [hGet_put_self]; unfold tFs
      simp [updI, updO, updL, List.set]
    · rw [hGet_put_ne (by unfold wT; omega) (k7 q hq)]; unfold tFs; rw [updO_n (by omega), updO_n (by omega)]
  · rw [hGet_put_ne (by unfold wS wT; omega) (k8 q hq)]
  · rw [hGet_put_ne (by unfold wK wT; omega) (k9 q hq)]; unfold kFs; rw [updO_n (by omega), updO_n (by omega)]
end IW
end mg_50
