/-! ===== Ints ===== -/
theorem hGet_put_self {h : mH} {a : Nat} {o : mO} : hGet (hPut h a o) a = some o := by simp [hGet, hPut]
theorem hGet_put_ne {h : mH} {a b : Nat} {o : mO} {x : Option mO} (hne : b ≠ a) (k : hGet h b = x) : hGet (hPut h a o) b = x := by
  have : hGet (hPut h a o) b = hGet h b := by simp [hGet, hPut, hne]
  rw [this]; exact k
theorem narrow_rf (ty : FieldType) (r : Option Nat) : narrow ty (va_rf r) = va_rf r := by cases r <;> cases ty <;> rfl
/-- the same heap but for some cells -/
def Same (P : Nat → Prop) (h h' : mH) : Prop := h'.1 = h.1 ∧ h'.2.1 = h.2.1 ∧ h'.2.2.1 = h.2.2.1 ∧ ∀ b, ¬ P b → hGet h' b = hGet h b
theorem Same.refl {P : Nat → Prop} {h : mH} : Same P h h := ⟨rfl, rfl, rfl, fun _ _ => rfl⟩
theorem Same.put {P : Nat → Prop} {h h' : mH} {a : Nat} {o : mO} (k : Same P h h') (ha : P a) : Same P h (hPut h' a o) :=
  ⟨k.1, k.2.1, k.2.2.1, fun b hb => hGet_put_ne (fun e => hb (by rw [e]; exact ha)) (k.2.2.2 b hb)⟩
/-- an object Ints at a: its cells at c, room for n, its size z, its cells f -/
def isInts (h : mH) (a c n : Nat) (z : Int32) (f : Nat → Int32) : Prop := hGet h a = some (.inl (1, [.ref c, .int z])) ∧ hGet h c = some (.inr (.inl (n, f))) ∧ h.1 ≤ a ∧ h.1 ≤ c ∧ a ≠ c ∧ n < 2 ^ 30
def bI (b : Bool) : Value := .int (if b then 1 else 0)
theorem bI_t {p : Prop} [Decidable p] (h : p) : Value.int 1 = bI (decide p) := by simp [bI, h]
theorem bI_f {p : Prop} [Decidable p] (h : ¬ p) : Value.int 0 = bI (decide p) := by simp [bI, h]
theorem bI_nar (b : Bool) : narrow .boolean (bI b) = bI b := by cases b <;> rfl
abbrev inB (i z : Int32) (n : Nat) : Prop := 0 ≤ i.toInt ∧ i.toInt < z.toInt ∧ i.toInt < n
theorem i_lt (a b : Int32) : a < b ↔ a.toInt < b.toInt := Int32.lt_iff_toInt_lt
theorem i_le (a b : Int32) : a ≤ b ↔ a.toInt ≤ b.toInt := Int32.le_iff_toInt_le
theorem i_eq (a b : Int32) : a = b ↔ a.toInt = b.toInt := ⟨fun h => by rw [h], fun h => Int32.toInt_inj.mp h⟩
theorem i_nat {n : Nat} (h : n < 2 ^ 30) : (Int32.ofNat n).toInt = n := nI_toInt (n := n) (by omega)
theorem i_cl {i : Int32} (h : 0 ≤ i.toInt) : (i.toNatClampNeg : Int) = i.toInt := by
  show ((i.toInt.toNat : Nat) : Int) = _
  omega
theorem i_in {i : Int32} {n : Nat} (h0 : 0 ≤ i.toInt) (h1 : i.toInt < n) : vp_in i n := by
  intro h
  have := i_cl h0
  rcases h with h | h
  · rw [i_lt] at h
    have e : (0 : Int32).toInt = 0 := rfl
    omega
  · omega
theorem i_0 : (0 : Int32).toInt = 0 := rfl
theorem i_1 : (1 : Int32).toInt = 1 := rfl
theorem i_add {a b : Int32} (h : -2147483648 ≤ a.toInt + b.toInt ∧ a.toInt + b.toInt < 2147483648) : (a + b).toInt = a.toInt + b.toInt := by
  rw [Int32.toInt_add]
  exact Int.bmod_eq_of_le (by omega) (by omega)
theorem i_sub {a b : Int32} (h : -2147483648 ≤ a.toInt - b.toInt ∧ a.toInt - b.toInt < 2147483648) : (a - b).toInt = a.toInt - b.toInt := by
  rw [Int32.toInt_sub]
  exact Int.bmod_eq_of_le (by omega) (by omega)
theorem i_lo (a : Int32) : -2147483648 ≤ a.toInt := Int32.le_toInt a
theorem i_hi (a : Int32) : a.toInt < 2147483648 := Int32.toInt_lt a

set_option maxHeartbeats 4000000 in
set_option maxRecDepth 100000 in
theorem c_has {G : mG} {l : Launch} (d : Nat) {h : mH} {a c n : Nat} {z : Int32} {f : Nat → Int32} (I : isInts h a c n z f) (i : Int32) : RUNM G l (d) mX1_has [.ref a, .int i] h (fun v h' => v = some (bI (decide (inB i z n))) ∧ h' = h) := by
  refine RUNM.of (by decide +kernel) (Nat.le_of_ble_eq_true rfl) ?_
  obtain ⟨ho, hc, hla, hlc, hac, hn⟩ := I
  have hnI := i_nat hn
  refine r_iload_n (pc := 0) dX1_has_0 rfl ?_
  refine r_if_lt (pc := 1) (tgt := 25) dX1_has_1 (by decide) (fun c_1 => ?_) (fun c_1 => ?_)
  · refine r_iconst (pc := 25) (v := 0) dX1_has_25 (by decide) ?_
    refine r_ireturn (pc := 26) .boolean dX1_has_26 rfl (by first | rfl | assumption) ?_
    first
    | exact ⟨congrArg some (bI_f (by simp only [i_lt, i_le, i_eq, i_0, i_1, hnI] at *; omega)), rfl⟩
    | exact ⟨congrArg some (bI_t (by simp only [i_lt, i_le, i_eq, i_0, i_1, hnI] at *; omega)), rfl⟩
  · refine r_iload_n (pc := 4) dX1_has_4 rfl ?_
    refine r_aload_n (pc := 5) dX1_has_5 rfl (by first | rfl | exact isRefV_rf _) ?_
    refine r_getf (pc := 6) dX1_has_6 fX1_13 (by first | assumption | exact hGet_put_self | (refine hGet_put_ne (by omega) ?_; first | assumption | exact hGet_put_self | (refine hGet_put_ne (by omega) ?_; first | assumption | exact hGet_put_self | (refine hGet_put_ne (by omega) ?_; first | assumption | exact hGet_put_self)))) (by rfl) ?_
    refine r_icmp_ge (pc := 9) (tgt := 25) dX1_has_9 (by decide) (fun c_9 => ?_) (fun c_9 => ?_)
    · refine r_iconst (pc := 25) (v := 0) dX1_has_25 (by decide) ?_
      refine r_ireturn (pc := 26) .boolean dX1_has_26 rfl (by first | rfl | assumption) ?_
      first
      | exact ⟨congrArg some (bI_f (by simp only [i_lt, i_le, i_eq, i_0, i_1, hnI] at *; omega)), rfl⟩
      | exact ⟨congrArg some (bI_t (by simp only [i_lt, i_le, i_eq, i_0, i_1, hnI] at *; omega)), rfl⟩
    · refine r_iload_n (pc := 12) dX1_has_12 rfl ?_
      refine r_aload_n (pc := 13) dX1_has_13 rfl (by first | rfl | exact isRefV_rf _) ?_
      refine r_getf (pc := 14) dX1_has_14 fX1_7 (by first | assumption | exact hGet_put_self | (refine hGet_put_ne (by omega) ?_; first | assumption | exact hGet_put_self | (refine hGet_put_ne (by omega) ?_; first | assumption | exact hGet_put_self | (refine hGet_put_ne (by omega) ?_; first | assumption | exact hGet_put_self)))) (by rfl) ?_
      refine r_alenI (pc := 17) dX1_has_17 (by first | assumption | exact hGet_put_self | (refine hGet_put_ne (by omega) ?_; first | assumption | exact hGet_put_self | (refine hGet_put_ne (by omega) ?_; first | assumption | exact hGet_put_self | (refine hGet_put_ne (by omega) ?_; first | assumption | exact hGet_put_self)))) ?_
      refine r_icmp_ge (pc := 18) (tgt := 25) dX1_has_18 (by decide) (fun c_18 => ?_) (fun c_18 => ?_)
      · refine r_iconst (pc := 25) (v := 0) dX1_has_25 (by decide) ?_
        refine r_ireturn (pc := 26) .boolean dX1_has_26 rfl (by first | rfl | assumption) ?_
        first
        | exact ⟨congrArg some (bI_f (by simp only [i_lt, i_le, i_eq, i_0, i_1, hnI] at *; omega)), rfl⟩
        | exact ⟨congrArg some (bI_t (by simp only [i_lt, i_le, i_eq, i_0, i_1, hnI] at *; omega)), rfl⟩
      · refine r_iconst (pc := 21) (v := 1) dX1_has_21 (by decide) ?_
        refine r_goto (pc := 22) (tgt := 26) dX1_has_22 (by decide) ?_
        refine r_ireturn (pc := 26) .boolean dX1_has_26 rfl (by first | rfl | assumption) ?_
        first
        | exact ⟨congrArg some (bI_f (by simp only [i_lt, i_le, i_eq, i_0, i_1, hnI] at *; omega)), rfl⟩
        | exact ⟨congrArg some (bI_t (by simp only [i_lt, i_le, i_eq, i_0, i_1, hnI] at *; omega)), rfl⟩
set_option maxHeartbeats 4000000 in
set_option maxRecDepth 100000 in
theorem c_hasRange {G : mG} {l : Launch} (d : Nat) {h : mH} {a c n : Nat} {z : Int32} {f : Nat → Int32} (I : isInts h a c n z f) (hz : z.toInt ≤ n) (i k : Int32) : RUNM G l (d) mX1_hasRange [.ref a, .int i, .int k] h (fun v h' => v = some (bI (decide (0 ≤ i.toInt ∧ 0 ≤ k.toInt ∧ i.toInt + k.toInt ≤ z.toInt))) ∧ h' = h) := by
  refine RUNM.of (by decide +kernel) (Nat.le_of_ble_eq_true rfl) ?_
  obtain ⟨ho, hc, hla, hlc, hac, hn⟩ := I
  have hnI := i_nat hn
  have hs : 0 ≤ i.toInt → i.toInt ≤ z.toInt → (z - i).toInt = z.toInt - i.toInt := fun u v => i_sub (by have := i_lo z; have := i_hi z; omega)
  refine r_iload_n (pc := 0) dX1_hasRange_0 rfl ?_
  refine r_if_lt (pc := 1) (tgt := 42) dX1_hasRange_1 (by decide) (fun c_1 => ?_) (fun c_1 => ?_)
  · refine r_iconst (pc := 42) (v := 0) dX1_hasRange_42 (by decide) ?_
    refine r_ireturn (pc := 43) .boolean dX1_hasRange_43 rfl (by first | rfl | assumption) ?_
    first
    | exact ⟨congrArg some (bI_f (by simp only [i_lt, i_le, i_eq, i_0, i_1, hnI] at *; first | omega | (rw [hs (by omega) (by omega)] at *; omega))), rfl⟩
    | exact ⟨congrArg some (bI_t (by simp only [i_lt, i_le, i_eq, i_0, i_1, hnI] at *; first | omega | (rw [hs (by omega) (by omega)] at *; omega))), rfl⟩
  · refine r_iload_n (pc := 4) dX1_hasRange_4 rfl ?_
    refine r_if_lt (pc := 5) (tgt := 42) dX1_hasRange_5 (by decide) (fun c_5 => ?_) (fun c_5 => ?_)
    · refine r_iconst (pc := 42) (v := 0) dX1_hasRange_42 (by decide) ?_
      refine r_ireturn (pc := 43) .boolean dX1_hasRange_43 rfl (by first | rfl | assumption) ?_
      first
      | exact ⟨congrArg some (bI_f (by simp only [i_lt, i_le, i_eq, i_0, i_1, hnI] at *; first | omega | (rw [hs (by omega) (by omega)] at *; omega))), rfl⟩
      | exact ⟨congrArg some (bI_t (by simp only [i_lt, i_le, i_eq, i_0, i_1, hnI] at *; first | omega | (rw [hs (by omega) (by omega)] at *; omega))), rfl⟩
    · refine r_iload_n (pc := 8) dX1_hasRange_8 rfl ?_
      refine r_aload_n (pc := 9) dX1_hasRange_9 rfl (by first | rfl | exact isRefV_rf _) ?_
      refine r_getf (pc := 10) dX1_hasRange_10 fX1_13 (by first | assumption | exact hGet_put_self | (refine hGet_put_ne (by omega) ?_; first | assumption | exact hGet_put_self | (refine hGet_put_ne (by omega) ?_; first | assumption | exact hGet_put_self | (refine hGet_put_ne (by omega) ?_; first | assumption | exact hGet_put_self)))) (by rfl) ?_
      refine r_icmp_gt (pc := 13) (tgt := 42) dX1_hasRange_13 (by decide) (fun c_13 => ?_) (fun c_13 => ?_)
      · refine r_iconst (pc := 42) (v := 0) dX1_hasRange_42 (by decide) ?_
        refine r_ireturn (pc := 43) .boolean dX1_hasRange_43 rfl (by first | rfl | assumption) ?_
        first
        | exact ⟨congrArg some (bI_f (by simp only [i_lt, i_le, i_eq, i_0, i_1, hnI] at *; first | omega | (rw [hs (by omega) (by omega)] at *; omega))), rfl⟩
        | exact ⟨congrArg some (bI_t (by simp only [i_lt, i_le, i_eq, i_0, i_1, hnI] at *; first | omega | (rw [hs (by omega) (by omega)] at *; omega))), rfl⟩
      · refine r_iload_n (pc := 16) dX1_hasRange_16 rfl ?_
        refine r_aload_n (pc := 17) dX1_hasRange_17 rfl (by first | rfl | exact isRefV_rf _) ?_
        refine r_getf (pc := 18) dX1_hasRange_18 fX1_13 (by first | assumption | exact hGet_put_self | (refine hGet_put_ne (by omega) ?_; first | assumption | exact hGet_put_self | (refine hGet_put_ne (by omega) ?_; first | assumption | exact hGet_put_self | (refine hGet_put_ne (by omega) ?_; first | assumption | exact hGet_put_self)))) (by rfl) ?_
        refine r_iload_n (pc := 21) dX1_hasRange_21 rfl ?_
        refine r_isub (pc := 22) dX1_hasRange_22 ?_
        refine r_icmp_gt (pc := 23) (tgt := 42) dX1_hasRange_23 (by decide) (fun c_23 => ?_) (fun c_23 => ?_)
        · refine r_iconst (pc := 42) (v := 0) dX1_hasRange_42 (by decide) ?_
          refine r_ireturn (pc := 43) .boolean dX1_hasRange_43 rfl (by first | rfl | assumption) ?_
          first
          | exact ⟨congrArg some (bI_f (by simp only [i_lt, i_le, i_eq, i_0, i_1, hnI] at *; first | omega | (rw [hs (by omega) (by omega)] at *; omega))), rfl⟩
          | exact ⟨congrArg some (bI_t (by simp only [i_lt, i_le, i_eq, i_0, i_1, hnI] at *; first | omega | (rw [hs (by omega) (by omega)] at *; omega))), rfl⟩
        · refine r_aload_n (pc := 26) dX1_hasRange_26 rfl (by first | rfl | exact isRefV_rf _) ?_
          refine r_getf (pc := 27) dX1_hasRange_27 fX1_13 (by first | assumption | exact hGet_put_self | (refine hGet_put_ne (by omega) ?_; first | assumption | exact hGet_put_self | (refine hGet_put_ne (by omega) ?_; first | assumption | exact hGet_put_self | (refine hGet_put_ne (by omega) ?_; first | assumption | exact hGet_put_self)))) (by rfl) ?_
          refine r_aload_n (pc := 30) dX1_hasRange_30 rfl (by first | rfl | exact isRefV_rf _) ?_
          refine r_getf (pc := 31) dX1_hasRange_31 fX1_7 (by first | assumption | exact hGet_put_self | (refine hGet_put_ne (by omega) ?_; first | assumption | exact hGet_put_self | (refine hGet_put_ne (by omega) ?_; first | assumption | exact hGet_put_self | (refine hGet_put_ne (by omega) ?_; first | assumption | exact hGet_put_self)))) (by rfl) ?_
          refine r_alenI (pc := 34) dX1_hasRange_34 (by first | assumption | exact hGet_put_self | (refine hGet_put_ne (by omega) ?_; first | assumption | exact hGet_put_self | (refine hGet_put_ne (by omega) ?_; first | assumption | exact hGet_put_self | (refine hGet_put_ne (by omega) ?_; first | assumption | exact hGet_put_self)))) ?_
          refine r_icmp_gt (pc := 35) (tgt := 42) dX1_hasRange_35 (by decide) (fun c_35 => ?_) (fun c_35 => ?_)
          · refine r_iconst (pc := 42) (v := 0) dX1_hasRange_42 (by decide) ?_
            refine r_ireturn (pc := 43) .boolean dX1_hasRange_43 rfl (by first | rfl | assumption) ?_
            first
            | exact ⟨congrArg some (bI_f (by simp only [i_lt, i_le, i_eq, i_0, i_1, hnI] at *; first | omega | (rw [hs (by omega) (by omega)] at *; omega))), rfl⟩
            | exact ⟨congrArg some (bI_t (by simp only [i_lt, i_le, i_eq, i_0, i_1, hnI] at *; first | omega | (rw [hs (by omega) (by omega)] at *; omega))), rfl⟩
          · refine r_iconst (pc := 38) (v := 1) dX1_hasRange_38 (by decide) ?_
            refine r_goto (pc := 39) (tgt := 43) dX1_hasRange_39 (by decide) ?_
            refine r_ireturn (pc := 43) .boolean dX1_hasRange_43 rfl (by first | rfl | assumption) ?_
            first
            | exact ⟨congrArg some (bI_f (by simp only [i_lt, i_le, i_eq, i_0, i_1, hnI] at *; first | omega | (rw [hs (by omega) (by omega)] at *; omega))), rfl⟩
            | exact ⟨congrArg some (bI_t (by simp only [i_lt, i_le, i_eq, i_0, i_1, hnI] at *; first | omega | (rw [hs (by omega) (by omega)] at *; omega))), rfl⟩
theorem bz0 {p : Prop} [Decidable p] : ((if decide p = true then (1 : Int32) else 0) = 0) ↔ ¬ p := by by_cases h : p <;> simp [h]
theorem bz1 {p : Prop} [Decidable p] : (¬ (if decide p = true then (1 : Int32) else 0) = 0) ↔ p := by by_cases h : p <;> simp [h]
theorem isInts.putc {h : mH} {a c n : Nat} {z : Int32} {f f' : Nat → Int32} (I : isInts h a c n z f) : isInts (hPut h c (.inr (.inl (n, f')))) a c n z f' := ⟨hGet_put_ne I.2.2.2.2.1 I.1, hGet_put_self, I.2.2.1, I.2.2.2.1, I.2.2.2.2⟩
theorem isInts.puta {h : mH} {a c n : Nat} {z z' : Int32} {f : Nat → Int32} (I : isInts h a c n z f) : isInts (hPut h a (.inl (1, [.ref c, .int z']))) a c n z' f := ⟨hGet_put_self, hGet_put_ne (fun e => I.2.2.2.2.1 e.symm) I.2.1, I.2.2.1, I.2.2.2.1, I.2.2.2.2⟩
set_option maxHeartbeats 4000000 in
set_option maxRecDepth 100000 in
theorem c_at {G : mG} {l : Launch} (d : Nat) {h : mH} {a c n : Nat} {z : Int32} {f : Nat → Int32} (I : isInts h a c n z f) (i : Int32) : RUNM G l (d + 1) mX1_at [.ref a, .int i] h (fun v h' => v = some (.int (if inB i z n then f i.toNatClampNeg else 0)) ∧ h' = h) := by
  refine RUNM.of (by decide +kernel) (Nat.le_of_ble_eq_true rfl) ?_
  have I0 := I
  obtain ⟨ho, hc, hla, hlc, hac, hn⟩ := I
  have hnI := i_nat hn
  refine r_aload_n (pc := 0) dX1_at_0 rfl (by first | rfl | exact isRefV_rf _) ?_
  refine r_iload_n (pc := 1) dX1_at_1 rfl ?_
  refine r_callV1 (pc := 2) dX1_at_2 qX1_has kX1_17 vX1_has (by first | assumption | exact hGet_put_self | (refine hGet_put_ne (by omega) ?_; first | assumption | exact hGet_put_self | (refine hGet_put_ne (by omega) ?_; first | assumption | exact hGet_put_self | (refine hGet_put_ne (by omega) ?_; first | assumption | exact hGet_put_self)))) rfl rfl (Nat.le_of_ble_eq_true rfl) (c_has d I0 i) (fun v_2 h_2 q_2 => ?_)
  obtain ⟨rfl, rfl⟩ := q_2
  refine r_if_eq (pc := 5) (tgt := 17) dX1_at_5 (by decide) (fun c_5 => ?_) (fun c_5 => ?_)
  · try simp only [bz0, bz1, Classical.not_not] at c_5
    refine r_iconst (pc := 17) (v := 0) dX1_at_17 (by decide) ?_
    refine r_ireturn (pc := 18) .int dX1_at_18 rfl (by first | rfl | assumption) ?_
    first
    | exact ⟨by rw [if_pos c_5], rfl⟩
    | exact ⟨by rw [if_neg c_5], rfl⟩
  · try simp only [bz0, bz1, Classical.not_not] at c_5
    refine r_aload_n (pc := 8) dX1_at_8 rfl (by first | rfl | exact isRefV_rf _) ?_
    refine r_getf (pc := 9) dX1_at_9 fX1_7 (by first | assumption | exact hGet_put_self | (refine hGet_put_ne (by omega) ?_; first | assumption | exact hGet_put_self | (refine hGet_put_ne (by omega) ?_; first | assumption | exact hGet_put_self | (refine hGet_put_ne (by omega) ?_; first | assumption | exact hGet_put_self)))) (by rfl) ?_
    refine r_iload_n (pc := 12) dX1_at_12 rfl ?_
    refine r_iald (pc := 13) dX1_at_13 (by first | assumption | exact hGet_put_self | (refine hGet_put_ne (by omega) ?_; first | assumption | exact hGet_put_self | (refine hGet_put_ne (by omega) ?_; first | assumption | exact hGet_put_self | (refine hGet_put_ne (by omega) ?_; first | assumption | exact hGet_put_self)))) (i_in (by omega) (by omega)) ?_
    refine r_goto (pc := 14) (tgt := 18) dX1_at_14 (by decide) ?_
    refine r_ireturn (pc := 18) .int dX1_at_18 rfl (by first | rfl | assumption) ?_
    first
    | exact ⟨by rw [if_pos c_5], rfl⟩
    | exact ⟨by rw [if_neg c_5], rfl⟩
set_option maxHeartbeats 4000000 in
set_option maxRecDepth 100000 in
theorem c_put {G : mG} {l : Launch} (d : Nat) {h : mH} {a c n : Nat} {z : Int32} {f : Nat → Int32} (I : isInts h a c n z f) (i x : Int32) : RUNM G l (d + 1) mX1_put [.ref a, .int i, .int x] h (fun v h' => v = none ∧ isInts h' a c n z (if inB i z n then upd f i.toNatClampNeg x else f) ∧ Same (fun b => b = c) h h') := by
  refine RUNM.of (by decide +kernel) (Nat.le_of_ble_eq_true rfl) ?_
  have I0 := I
  obtain ⟨ho, hc, hla, hlc, hac, hn⟩ := I
  have hnI := i_nat hn
  refine r_aload_n (pc := 0) dX1_put_0 rfl (by first | rfl | exact isRefV_rf _) ?_
  refine r_iload_n (pc := 1) dX1_put_1 rfl ?_
  refine r_callV1 (pc := 2) dX1_put_2 qX1_has kX1_17 vX1_has (by first | assumption | exact hGet_put_self | (refine hGet_put_ne (by omega) ?_; first | assumption | exact hGet_put_self | (refine hGet_put_ne (by omega) ?_; first | assumption | exact hGet_put_self | (refine hGet_put_ne (by omega) ?_; first | assumption | exact hGet_put_self)))) rfl rfl (Nat.le_of_ble_eq_true rfl) (c_has d I0 i) (fun v_2 h_2 q_2 => ?_)
  obtain ⟨rfl, rfl⟩ := q_2
  refine r_if_eq (pc := 5) (tgt := 15) dX1_put_5 (by decide) (fun c_5 => ?_) (fun c_5 => ?_)
  · try simp only [bz0, bz1, Classical.not_not] at c_5
    refine r_return (pc := 15) dX1_put_15 rfl ?_
    first
    | exact ⟨rfl, by rw [if_neg c_5]; exact I0, Same.refl⟩
    | exact ⟨rfl, by rw [if_pos c_5]; exact I0.putc, Same.refl.put rfl⟩
  · try simp only [bz0, bz1, Classical.not_not] at c_5
    refine r_aload_n (pc := 8) dX1_put_8 rfl (by first | rfl | exact isRefV_rf _) ?_
    refine r_getf (pc := 9) dX1_put_9 fX1_7 (by first | assumption | exact hGet_put_self | (refine hGet_put_ne (by omega) ?_; first | assumption | exact hGet_put_self | (refine hGet_put_ne (by omega) ?_; first | assumption | exact hGet_put_self | (refine hGet_put_ne (by omega) ?_; first | assumption | exact hGet_put_self)))) (by rfl) ?_
    refine r_iload_n (pc := 12) dX1_put_12 rfl ?_
    refine r_iload_n (pc := 13) dX1_put_13 rfl ?_
    refine r_iast (pc := 14) dX1_put_14 (by first | assumption | exact hGet_put_self | (refine hGet_put_ne (by omega) ?_; first | assumption | exact hGet_put_self | (refine hGet_put_ne (by omega) ?_; first | assumption | exact hGet_put_self | (refine hGet_put_ne (by omega) ?_; first | assumption | exact hGet_put_self)))) hlc (i_in (by omega) (by omega)) ?_
    refine r_return (pc := 15) dX1_put_15 rfl ?_
    first
    | exact ⟨rfl, by rw [if_neg c_5]; exact I0, Same.refl⟩
    | exact ⟨rfl, by rw [if_pos c_5]; exact I0.putc, Same.refl.put rfl⟩
set_option maxHeartbeats 4000000 in
set_option maxRecDepth 100000 in
theorem c_append {G : mG} {l : Launch} (d : Nat) {h : mH} {a c n : Nat} {z : Int32} {f : Nat → Int32} (I : isInts h a c n z f) (x : Int32) : RUNM G l (d) mX1_append [.ref a, .int x] h (fun v h' => v = some (bI (decide (0 ≤ z.toInt ∧ z.toInt < n))) ∧ isInts h' a c n (if 0 ≤ z.toInt ∧ z.toInt < n then z + 1 else z) (if 0 ≤ z.toInt ∧ z.toInt < n then upd f z.toNatClampNeg x else f) ∧ Same (fun b => b = a ∨ b = c) h h') := by
  refine RUNM.of (by decide +kernel) (Nat.le_of_ble_eq_true rfl) ?_
  have I0 := I
  obtain ⟨ho, hc, hla, hlc, hac, hn⟩ := I
  have hnI := i_nat hn
  refine r_aload_n (pc := 0) dX1_append_0 rfl (by first | rfl | exact isRefV_rf _) ?_
  refine r_getf (pc := 1) dX1_append_1 fX1_13 (by first | assumption | exact hGet_put_self | (refine hGet_put_ne (by omega) ?_; first | assumption | exact hGet_put_self | (refine hGet_put_ne (by omega) ?_; first | assumption | exact hGet_put_self | (refine hGet_put_ne (by omega) ?_; first | assumption | exact hGet_put_self)))) (by rfl) ?_
  refine r_if_lt (pc := 4) (tgt := 19) dX1_append_4 (by decide) (fun c_4 => ?_) (fun c_4 => ?_)
  · refine r_iconst (pc := 19) (v := 0) dX1_append_19 (by decide) ?_
    refine r_ireturn (pc := 20) .boolean dX1_append_20 rfl (by first | rfl | assumption) ?_
    have hb : ¬ (0 ≤ z.toInt ∧ z.toInt < n) := (by simp only [i_lt, i_le, i_eq, i_0, i_1, hnI] at *; omega)
    refine ⟨congrArg some (bI_f hb), ?_, Same.refl⟩
    rw [if_neg hb, if_neg hb]
    exact I0
  · refine r_aload_n (pc := 7) dX1_append_7 rfl (by first | rfl | exact isRefV_rf _) ?_
    refine r_getf (pc := 8) dX1_append_8 fX1_13 (by first | assumption | exact hGet_put_self | (refine hGet_put_ne (by omega) ?_; first | assumption | exact hGet_put_self | (refine hGet_put_ne (by omega) ?_; first | assumption | exact hGet_put_self | (refine hGet_put_ne (by omega) ?_; first | assumption | exact hGet_put_self)))) (by rfl) ?_
    refine r_aload_n (pc := 11) dX1_append_11 rfl (by first | rfl | exact isRefV_rf _) ?_
    refine r_getf (pc := 12) dX1_append_12 fX1_7 (by first | assumption | exact hGet_put_self | (refine hGet_put_ne (by omega) ?_; first | assumption | exact hGet_put_self | (refine hGet_put_ne (by omega) ?_; first | assumption | exact hGet_put_self | (refine hGet_put_ne (by omega) ?_; first | assumption | exact hGet_put_self)))) (by rfl) ?_
    refine r_alenI (pc := 15) dX1_append_15 (by first | assumption | exact hGet_put_self | (refine hGet_put_ne (by omega) ?_; first | assumption | exact hGet_put_self | (refine hGet_put_ne (by omega) ?_; first | assumption | exact hGet_put_self | (refine hGet_put_ne (by omega) ?_; first | assumption | exact hGet_put_self)))) ?_
    refine r_icmp_lt (pc := 16) (tgt := 21) dX1_append_16 (by decide) (fun c_16 => ?_) (fun c_16 => ?_)
    · refine r_aload_n (pc := 21) dX1_append_21 rfl (by first | rfl | exact isRefV_rf _) ?_
      refine r_getf (pc := 22) dX1_append_22 fX1_7 (by first | assumption | exact hGet_put_self | (refine hGet_put_ne (by omega) ?_; first | assumption | exact hGet_put_self | (refine hGet_put_ne (by omega) ?_; first | assumption | exact hGet_put_self | (refine hGet_put_ne (by omega) ?_; first | assumption | exact hGet_put_self)))) (by rfl) ?_
      refine r_aload_n (pc := 25) dX1_append_25 rfl (by first | rfl | exact isRefV_rf _) ?_
      refine r_getf (pc := 26) dX1_append_26 fX1_13 (by first | assumption | exact hGet_put_self | (refine hGet_put_ne (by omega) ?_; first | assumption | exact hGet_put_self | (refine hGet_put_ne (by omega) ?_; first | assumption | exact hGet_put_self | (refine hGet_put_ne (by omega) ?_; first | assumption | exact hGet_put_self)))) (by rfl) ?_
      refine r_iload_n (pc := 29) dX1_append_29 rfl ?_
      have hb : 0 ≤ z.toInt ∧ z.toInt < n := (by simp only [i_lt, i_le, i_eq, i_0, i_1, hnI] at *; omega)
      refine r_iast (pc := 30) dX1_append_30 (by first | assumption | exact hGet_put_self | (refine hGet_put_ne (by omega) ?_; first | assumption | exact hGet_put_self | (refine hGet_put_ne (by omega) ?_; first | assumption | exact hGet_put_self | (refine hGet_put_ne (by omega) ?_; first | assumption | exact hGet_put_self)))) hlc (i_in hb.1 hb.2) ?_
      refine r_aload_n (pc := 31) dX1_append_31 rfl (by first | rfl | exact isRefV_rf _) ?_
      refine r_dup (pc := 32) dX1_append_32 (by first | rfl | (cases ‹Option Nat› <;> rfl)) ?_
      refine r_getf (pc := 33) dX1_append_33 fX1_13 (by first | assumption | exact hGet_put_self | (refine hGet_put_ne (by omega) ?_; first | assumption | exact hGet_put_self | (refine hGet_put_ne (by omega) ?_; first | assumption | exact hGet_put_self | (refine hGet_put_ne (by omega) ?_; first | assumption | exact hGet_put_self)))) (by rfl) ?_
      refine r_iconst (pc := 36) (v := 1) dX1_append_36 (by decide) ?_
      refine r_iadd (pc := 37) dX1_append_37 ?_
      refine r_putf (pc := 38) dX1_append_38 fX1_13 (by first | assumption | exact hGet_put_self | (refine hGet_put_ne (by omega) ?_; first | assumption | exact hGet_put_self | (refine hGet_put_ne (by omega) ?_; first | assumption | exact hGet_put_self | (refine hGet_put_ne (by omega) ?_; first | assumption | exact hGet_put_self)))) (by first | assumption | omega) (by first | rfl | exact narrow_rf _ _) (by first | rfl | exact fits_rf _ _) (Nat.le_of_ble_eq_true rfl) ?_
      dsimp only [List.set]
      refine r_iconst (pc := 41) (v := 1) dX1_append_41 (by decide) ?_
      refine r_ireturn (pc := 42) .boolean dX1_append_42 rfl (by first | rfl | assumption) ?_
      refine ⟨congrArg some (bI_t hb), ?_, (Same.refl.put (Or.inr rfl)).put (Or.inl rfl)⟩
      rw [if_pos hb, if_pos hb]
      exact I0.putc.puta
    · refine r_iconst (pc := 19) (v := 0) dX1_append_19 (by decide) ?_
      refine r_ireturn (pc := 20) .boolean dX1_append_20 rfl (by first | rfl | assumption) ?_
      have hb : ¬ (0 ≤ z.toInt ∧ z.toInt < n) := (by simp only [i_lt, i_le, i_eq, i_0, i_1, hnI] at *; omega)
      refine ⟨congrArg some (bI_f hb), ?_, Same.refl⟩
      rw [if_neg hb, if_neg hb]
      exact I0
