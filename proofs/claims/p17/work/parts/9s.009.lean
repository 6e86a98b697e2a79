section RDNS
variable {G : mG} {l : Launch} {z : Int} {f : Nat → Int} {a n : Nat}
theorem rdn_all (hz : 0 ≤ z ∧ z ≤ 120) (hf : bytesOk f) : ∀ n, RDN G l z f a n
  | 0 => rdn_zero
  | n + 1 => rdn_succ hz hf (rdn_all hz hf n)
end RDNS
