section mg_e5
end mg_e5
section mg_e6
/-! ===== the class: image where there is no kept world yet, on any keeper ===== -/
theorem isK.ofX {h h' : mH} {x : Nat} {kp tk kp' tk' : Option Nat} {zr : Nat → Int} {fr : Nat → Nat → Int} {p e o zt : Int} {ft : Nat → Int} {zs : Int} {fs : Nat → Int} {b za : Int} {fa : Nat → Int} {c : Nat → Int} {C : Nat → Nat → Int} {nm : Nat → Int64} {g : Nat → Option Nat} (k : isK h x kp tk zr fr p e o zt ft zs fs b za fa c C nm g) (e1 : h'.1 = h.1) (ex : hGet h' x = some (.inl (10, kFsF x kp' tk'))) (S : ∀ q, kBlk x q → ¬ q = x → hGet h' q = hGet h q) : isK h' x kp' tk' zr fr p e o zt ft zs fs b za fa c C nm g :=
  ⟨by rw [e1]; exact k.lo, ex, k.d.keep2 e1 (fun q hq => S q (by unfold dBlk kA at hq; unfold kBlk; omega) (by unfold dBlk kA at hq; omega)), k.s.keep2 e1 (fun q hq => S q (by unfold dBlk kA at hq; unfold kBlk; omega) (by unfold dBlk kA at hq; omega)), (S _ (by unfold kBlk kA; omega) (by unfold kA; omega)).trans k.gr, k.r.keep2 e1 (fun q hq => S q (by unfold rBlk kA at hq; unfold kBlk; omega) (by unfold rBlk kA at hq; omega)), fun q hq => (k.row hq).keep2 e1 (fun q2 hq2 => S q2 (by unfold iBlk kR at hq2; unfold kBlk; omega) (by unfold iBlk kR at hq2; omega))⟩
end mg_e6
