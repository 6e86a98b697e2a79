/-! ===== Ints ===== -/
theorem hGet_put_self {h : mH} {a : Nat} {o : mO} : hGet (hPut h a o) a = some o := by simp [hGet, hPut]
theorem hGet_put_ne {h : mH} {a b : Nat} {o : mO} {x : Option mO} (hne : b ≠ a) (k : hGet h b = x) : hGet (hPut h a o) b = x := by
  have : hGet (hPut h a o) b = hGet h b := by simp [hGet, hPut, hne]
  rw [this]; exact k
theorem narrow_rf (ty : FieldType) (r : Option Nat) : narrow ty (va_rf r) = va_rf r := by cases r <;> cases ty <;> rfl
/-- a row of ints with room for n: its size z, its cells f -/
def isInts (h : mH) (a c n : Nat) (z : Int32) (f : Nat → Int32) : Prop := hGet h a = some (.inl (1, [.ref c, .int z])) ∧ hGet h c = some (.inr (.inl (n, f))) ∧ h.1 ≤ a ∧ h.1 ≤ c ∧ a ≠ c ∧ n < 2 ^ 31
def bI (b : Bool) : Value := .int (if b then 1 else 0)

set_option maxHeartbeats 4000000 in
set_option maxRecDepth 100000 in
theorem c_has {G : mG} {l : Launch} (d : Nat) {h : mH} {a c n : Nat} {z : Int32} {f : Nat → Int32} (I : isInts h a c n z f) (i : Int32) : RUNM G l (d) mX1_has [.ref a, .int i] h (fun v h' => v = some (bI (decide (0 ≤ i) && decide (i < z) && decide (i < Int32.ofNat n))) ∧ h' = h) := by
  refine RUNM.of (by decide +kernel) (Nat.le_of_ble_eq_true rfl) ?_
  obtain ⟨ho, hc, hla, hlc, hac, hn⟩ := I
  refine r_iload_n (pc := 0) dX1_has_0 rfl ?_
  refine r_if_lt (pc := 1) (tgt := 25) dX1_has_1 (by decide) (fun c_1 => ?_) (fun c_1 => ?_)
  · refine r_iconst (pc := 25) (v := 0) dX1_has_25 (by decide) ?_
    refine r_ireturn (pc := 26) .boolean dX1_has_26 rfl (by first | rfl | assumption) ?_
    refine ⟨?_, rfl⟩
    simp_all [bI]
  · refine r_iload_n (pc := 4) dX1_has_4 rfl ?_
    refine r_aload_n (pc := 5) dX1_has_5 rfl (by first | rfl | exact isRefV_rf _) ?_
    refine r_getf (pc := 6) dX1_has_6 fX1_13 (by first | assumption | exact hGet_put_self | (refine hGet_put_ne (by omega) ?_; first | assumption | exact hGet_put_self | (refine hGet_put_ne (by omega) ?_; first | assumption | exact hGet_put_self | (refine hGet_put_ne (by omega) ?_; first | assumption | exact hGet_put_self)))) (by rfl) ?_
    refine r_icmp_ge (pc := 9) (tgt := 25) dX1_has_9 (by decide) (fun c_9 => ?_) (fun c_9 => ?_)
    · refine r_iconst (pc := 25) (v := 0) dX1_has_25 (by decide) ?_
      refine r_ireturn (pc := 26) .boolean dX1_has_26 rfl (by first | rfl | assumption) ?_
      refine ⟨?_, rfl⟩
      simp_all [bI]
    · refine r_iload_n (pc := 12) dX1_has_12 rfl ?_
      refine r_aload_n (pc := 13) dX1_has_13 rfl (by first | rfl | exact isRefV_rf _) ?_
      refine r_getf (pc := 14) dX1_has_14 fX1_7 (by first | assumption | exact hGet_put_self | (refine hGet_put_ne (by omega) ?_; first | assumption | exact hGet_put_self | (refine hGet_put_ne (by omega) ?_; first | assumption | exact hGet_put_self | (refine hGet_put_ne (by omega) ?_; first | assumption | exact hGet_put_self)))) (by rfl) ?_
      refine r_alenI (pc := 17) dX1_has_17 (by first | assumption | exact hGet_put_self | (refine hGet_put_ne (by omega) ?_; first | assumption | exact hGet_put_self | (refine hGet_put_ne (by omega) ?_; first | assumption | exact hGet_put_self | (refine hGet_put_ne (by omega) ?_; first | assumption | exact hGet_put_self)))) ?_
      refine r_icmp_ge (pc := 18) (tgt := 25) dX1_has_18 (by decide) (fun c_18 => ?_) (fun c_18 => ?_)
      · refine r_iconst (pc := 25) (v := 0) dX1_has_25 (by decide) ?_
        refine r_ireturn (pc := 26) .boolean dX1_has_26 rfl (by first | rfl | assumption) ?_
        refine ⟨?_, rfl⟩
        simp_all [bI]
      · refine r_iconst (pc := 21) (v := 1) dX1_has_21 (by decide) ?_
        refine r_goto (pc := 22) (tgt := 26) dX1_has_22 (by decide) ?_
        refine r_ireturn (pc := 26) .boolean dX1_has_26 rfl (by first | rfl | assumption) ?_
        refine ⟨?_, rfl⟩
        simp_all [bI]
