section mg_a6
section SH2
variable {G : mG} {l : Launch} {r : Nat} {b : Int} {pool : Nat → Int} {S : Nat → Option mO} {h0 : mH} {n : Nat}
theorem phi_sc {k : Nat} {m : Nat → Int} {s : Nat} {v : Int} (hs : s < 60) : phi k (updI m (18 + 4 * s) v) = phi k m := by
  have ee : cnt (cngB (updI m (18 + 4 * s) v)) (m 1).toNat = cnt (cngB m) (m 1).toNat := cnt_congr _ (fun q hq => by
    show decide (updI m (18 + 4 * s) v (258 + 14 * q) = 1) = decide (m (258 + 14 * q) = 1)
    rw [updI_n (by omega)])
  unfold phi
  rw [updI_n (by omega), updI_n (by omega), ee]
end SH2
end mg_a6
