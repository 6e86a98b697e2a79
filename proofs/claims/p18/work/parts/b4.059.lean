section mg_d2
end mg_d2
section mg_d3
/-! ===== what changes in a keeper ===== -/
section KU
variable {h h' : mH} {x : Nat} {kp tk : Option Nat} {zr : Nat → Int} {fr : Nat → Nat → Int} {p e o zt : Int} {ft : Nat → Int} {zs : Int} {fs : Nat → Int} {b za : Int} {fa : Nat → Int} {c : Nat → Int} {C : Nat → Nat → Int} {nm : Nat → Int64} {g : Nat → Option Nat}
theorem isK.ofR (k : isK h x kp tk zr fr p e o zt ft zs fs b za fa c C nm g) (S : Same (rBlk (kA x 8)) h h') {b' za' : Int} {fa' c' : Nat → Int} {C' : Nat → Nat → Int} {nm' : Nat → Int64} {g' : Nat → Option Nat} (r : isR h' (kA x 8) b' za' fa' c' C' nm' g') : isK h' x kp tk zr fr p e o zt ft zs fs b' za' fa' c' C' nm' g' := by
  have n : ∀ q, ¬ rBlk (kA x 8) q → hGet h' q = hGet h q := S.2.2.2
  exact ⟨by rw [S.1]; exact k.lo, (n _ (by unfold rBlk kA; omega)).trans k.gx, k.d.keep2 S.1 (fun q hq => n q (by unfold dBlk kA at hq; unfold rBlk kA; omega)), k.s.keep2 S.1 (fun q hq => n q (by unfold dBlk kA at hq; unfold rBlk kA; omega)), (n _ (by unfold rBlk kA; omega)).trans k.gr, r, fun q hq => (k.row hq).keep2 S.1 (fun q2 hq2 => n q2 (by unfold iBlk kR at hq2; unfold rBlk kA; omega))⟩
theorem isK.ofD (k : isK h x kp tk zr fr p e o zt ft zs fs b za fa c C nm g) (S : Same (dBlk (kA x 1)) h h') {p' e' o' zt' : Int} {ft' : Nat → Int} (r : isRd h' (kA x 1) p' e' o' zt' ft') : isK h' x kp tk zr fr p' e' o' zt' ft' zs fs b za fa c C nm g := by
  have n : ∀ q, ¬ dBlk (kA x 1) q → hGet h' q = hGet h q := S.2.2.2
  exact ⟨by rw [S.1]; exact k.lo, (n _ (by unfold dBlk kA; omega)).trans k.gx, r, k.s.keep2 S.1 (fun q hq => n q (by unfold dBlk kA at hq; unfold dBlk kA; omega)), (n _ (by unfold dBlk kA; omega)).trans k.gr, k.r.keep2 S.1 (fun q hq => n q (by unfold rBlk kA at hq; unfold dBlk kA; omega)), fun q hq => (k.row hq).keep2 S.1 (fun q2 hq2 => n q2 (by unfold iBlk kR at hq2; unfold dBlk kA; omega))⟩
theorem isK.ofS (k : isK h x kp tk zr fr p e o zt ft zs fs b za fa c C nm g) (S : Same (dBlk (kA x 4)) h h') {zs' : Int} {fs' : Nat → Int} (r : isSp h' (kA x 4) zs' fs') : isK h' x kp tk zr fr p e o zt ft zs' fs' b za fa c C nm g := by
  have n : ∀ q, ¬ dBlk (kA x 4) q → hGet h' q = hGet h q := S.2.2.2
  exact ⟨by rw [S.1]; exact k.lo, (n _ (by unfold dBlk kA; omega)).trans k.gx, k.d.keep2 S.1 (fun q hq => n q (by unfold dBlk kA at hq; unfold dBlk kA; omega)), r, (n _ (by unfold dBlk kA; omega)).trans k.gr, k.r.keep2 S.1 (fun q hq => n q (by unfold rBlk kA at hq; unfold dBlk kA; omega)), fun q hq => (k.row hq).keep2 S.1 (fun q2 hq2 => n q2 (by unfold iBlk kR at hq2; unfold dBlk kA; omega))⟩
theorem isK.ofRow (k : isK h x kp tk zr fr p e o zt ft zs fs b za fa c C nm g) {a : Nat} (ha : a < 4) (S : Same (iBlk (kR x a)) h h') {z : Int} {f : Nat → Int} (r : isI h' (kR x a) 40 z f) : isK h' x kp tk (updI zr a z) (updC fr a f) p e o zt ft zs fs b za fa c C nm g := by
  have n : ∀ q, ¬ iBlk (kR x a) q → hGet h' q = hGet h q := S.2.2.2
  refine ⟨by rw [S.1]; exact k.lo, (n _ (by unfold iBlk kR; omega)).trans k.gx, k.d.keep2 S.1 (fun q hq => n q (by unfold dBlk kA at hq; unfold iBlk kR; omega)), k.s.keep2 S.1 (fun q hq => n q (by unfold dBlk kA at hq; unfold iBlk kR; omega)), (n _ (by unfold iBlk kR kA; omega)).trans k.gr, k.r.keep2 S.1 (fun q hq => n q (by unfold rBlk kA at hq; unfold iBlk kR; omega)), fun q hq => ?_⟩
  by_cases w : q = a
  · subst w; rw [updI_s, updC_s]; exact r
  · rw [updI_n w, updC_n w]
    exact (k.row hq).keep2 S.1 (fun q2 hq2 => n q2 (by unfold iBlk kR at hq2; unfold iBlk kR; omega))
theorem isK.ofW (k : isK h x kp tk zr fr p e o zt ft zs fs b za fa c C nm g) (S : Same (wBlk (rA (kA x 8) 1)) h h') {c' : Nat → Int} {C' : Nat → Nat → Int} {nm' : Nat → Int64} {g' : Nat → Option Nat} (w : isW h' (rA (kA x 8) 1) c' C' nm' g') : isK h' x kp tk zr fr p e o zt ft zs fs b za fa c' C' nm' g' :=
  k.ofR (S.mono (fun q hq => by unfold wBlk rA at hq; unfold rBlk; omega)) (k.r.ofW S w)
theorem same_kr {x : Nat} {h h' : mH} (S : Same (rBlk (kA x 8)) h h') : Same (kBlk x) h h' := S.mono (fun q hq => by unfold rBlk kA at hq; unfold kBlk; omega)
theorem same_kd {x : Nat} {h h' : mH} (S : Same (dBlk (kA x 1)) h h') : Same (kBlk x) h h' := S.mono (fun q hq => by unfold dBlk kA at hq; unfold kBlk; omega)
theorem same_ks {x : Nat} {h h' : mH} (S : Same (dBlk (kA x 4)) h h') : Same (kBlk x) h h' := S.mono (fun q hq => by unfold dBlk kA at hq; unfold kBlk; omega)
theorem same_kw {x : Nat} {h h' : mH} (S : Same (wBlk (rA (kA x 8) 1)) h h') : Same (kBlk x) h h' := S.mono (fun q hq => by unfold wBlk rA kA at hq; unfold kBlk; omega)
theorem same_ki {x a : Nat} (ha : a < 4) {h h' : mH} (S : Same (iBlk (kR x a)) h h') : Same (kBlk x) h h' := S.mono (fun q hq => by unfold iBlk kR at hq; unfold kBlk; omega)
end KU
end mg_d3
section mg_d4
/-! ===== the class: calls that end things, turns, on any keeper ===== -/
end mg_d4
