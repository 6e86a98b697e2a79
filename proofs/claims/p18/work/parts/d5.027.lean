section mg_e8
end mg_e8
section mg_e9
/-! ===== a keeper when its reader has read ===== -/
section KF
variable {h h' : mH} {x : Nat} {kp tk : Option Nat} {zr : Nat → Int} {fr : Nat → Nat → Int} {p e o zt : Int} {ft : Nat → Int} {zs : Int} {fs : Nat → Int} {b za : Int} {fa : Nat → Int} {c : Nat → Int} {C : Nat → Nat → Int} {nm : Nat → Int64} {g : Nat → Option Nat}
theorem isK.ofF (k : isK h x kp tk zr fr p e o zt ft zs fs b za fa c C nm g) (hx : x + 196 ≤ h.2.1) (F : FrR (kA x 1) h h') {p' e' o' zt' : Int} {ft' : Nat → Int} (r : isRd h' (kA x 1) p' e' o' zt' ft') : isK h' x kp tk zr fr p' e' o' zt' ft' zs fs b za fa c C nm g := by
  have n : ∀ q, q < h.2.1 → ¬ dBlk (kA x 1) q → hGet h' q = hGet h q := F.2.2.2
  exact ⟨by rw [F.1]; exact k.lo, (n _ (by omega) (by unfold dBlk kA; omega)).trans k.gx, r, k.s.keep2 F.1 (fun q hq => n q (by unfold dBlk kA at hq; omega) (by unfold dBlk kA at hq; unfold dBlk kA; omega)), (n _ (by unfold kA; omega) (by unfold dBlk kA; omega)).trans k.gr, k.r.keep2 F.1 (fun q hq => n q (by unfold rBlk kA at hq; omega) (by unfold rBlk kA at hq; unfold dBlk kA; omega)), fun q hq => (k.row hq).keep2 F.1 (fun q2 hq2 => n q2 (by unfold iBlk kR at hq2; omega) (by unfold iBlk kR at hq2; unfold dBlk kA; omega))⟩
/-- objects of old are still there, none of them in the keeper -/
theorem FrR.old (F : FrR (kA x 1) h h') {a : Nat} {ob : mO} (ha : a < h.2.1) (hn : ¬ kBlk x a) (e : hGet h a = some ob) : hGet h' a = some ob := (F.2.2.2 a ha (fun q => hn (by unfold dBlk kA at q; unfold kBlk; omega))).trans e
end KF
end mg_e9
section mg_f0
/-! ===== the class: take and task, on any keeper: what the reader answers, and where it leaves the heap, is handed in ===== -/
end mg_f0
