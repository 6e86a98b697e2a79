section mg_78
theorem cnt_cl_cng {m : Nat → Int} {N t : Nat} (h : t < N) (h0 : m (258 + 14 * t) = 0) : cnt (cngB m) N < N := cnt_lt (decide_eq_false (by rw [h0]; decide)) N h
end mg_78
