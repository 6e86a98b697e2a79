section mg_a4
section SC2
variable {G : mG} {l : Launch} {r : Nat} {b : Int} {pool : Nat → Int} {S : Nat → Option mO} {h0 : mH} {n : Nat}
theorem simC_all (hS : ∀ a o, S a = some o → hGet h0 a = some o) (hSr : ∀ a, ¬ S a = none → ¬ rBlk r a) (hb : -1 ≤ b ∧ b ≤ 9) (hPo : poolOk pool) : ∀ n, CXG (clS G l r b pool S h0 n) pool n
  | 0 => fun m t B h hB hn ht h0 => by
    have k1 := h.1.2.2.1
    have := cnt_cl_cng (m := m) (N := (m 1).toNat) (t := t) (by omega) h0
    omega
  | n + 1 => fun m t B h hB hn ht h0t => by
    obtain ⟨m', a, a2, a3, a4, a5⟩ := closes_exI (sink := b) hPo ⟨by omega, by omega⟩ (simC_all hS hSr hb hPo n) m t B h hB hn ht h0t
    exact ⟨m', ⟨clI_mo (cl := clS G l r b pool S h0 n) (fun _ _ _ x => x.1) a, sim_closes hS hSr hb hPo h ht h0t a3 a, a3⟩, a2, a3, a4, a5⟩
end SC2
end mg_a4
