section mg_9n
end mg_9n
section mg_9o
/-! ===== names as longs; what the class's reader makes of a text, beside the reference's ===== -/
theorem wb_tb (n : Nat) : (lN n).toBitVec = BitVec.ofNat 64 n := rfl
theorem wb_inj {a b : Int64} (h : a.toBitVec = b.toBitVec) : a = b := Int64.toBitVec_inj.mp h
theorem wb_c : ∀ k, k < 64 → ((nI k).toInt64 &&& 63) = lN k := by decide +kernel
theorem wb_sm : ∀ k, k < 64 → (BitVec.ofNat 64 k).smod 64 = BitVec.ofNat 64 k := by decide +kernel
theorem wb_shl (n : Nat) {k : Nat} (hk : k < 64) : lN n <<< ((nI k).toInt64 &&& 63) = lN (n * 2 ^ k) := by
  rw [wb_c k hk]
  apply wb_inj
  rw [Int64.toBitVec_shiftLeft, wb_tb, wb_tb, wb_tb, wb_sm k hk]
  apply BitVec.eq_of_toNat_eq
  rw [BitVec.shiftLeft_eq', BitVec.toNat_shiftLeft, BitVec.toNat_ofNat, BitVec.toNat_ofNat, BitVec.toNat_ofNat, Nat.mod_eq_of_lt (show k < 2 ^ 64 by omega), Nat.shiftLeft_eq, Nat.mul_mod, Nat.mod_mod, ← Nat.mul_mod]
theorem pf_lI {a : Nat} (h : a < 2 ^ 63) : (lN a).toInt = (a : Int) := lg_ofNat_toInt h
theorem pf_shr {a d : Nat} {D : Int64} (hD : (D.toBitVec.smod 64).toNat = d) (h : a < 2 ^ 62) : lN a >>> D = lN (a / 2 ^ d) := by
  have hd : a / 2 ^ d ≤ a := Nat.div_le_self _ _
  apply Int64.toInt_inj.mp
  have e : (lN a >>> D).toInt = (lN a).toInt >>> d := by
    rw [← hD]
    exact BitVec.toInt_sshiftRight ..
  rw [e, Int.shiftRight_eq_div_pow, pf_lI (by omega), pf_lI (by omega)]
  rfl
theorem J_nI (c : Int) (h0 : 0 ≤ c) : J c = nI c.toNat := by
  have e := (J_nat c.toNat).symm
  rw [show ((c.toNat : Nat) : Int) = c by omega] at e
  exact e
theorem lsh5 (v : Nat) : lN v <<< ((J 5).toInt64 &&& 63) = lN (v * 32) := by
  rw [J_nI 5 (by decide)]
  exact wb_shl v (k := 5) (by decide)
theorem lad (v : Nat) (c : Int) (h0 : 0 ≤ c) (h1 : c < 2147483648) : lN v + (J c).toInt64 = lN (v + c.toNat) := by
  rw [J_nI c h0, nI_l (by omega), lN_add]
/-! codes of letters, a name's number -/
def cdN (g : Nat → Nat) : Nat → Nat
  | 0 => 0
  | n + 1 => 32 * cdN g n + g n
theorem cdN_b {g : Nat → Nat} (hg : ∀ j, g j < 32) : ∀ n, cdN g n < 32 ^ n
  | 0 => by show 0 < 32 ^ 0; decide
  | n + 1 => by
    have := cdN_b hg n
    have h2 := hg n
    show 32 * cdN g n + g n < 32 ^ (n + 1)
    rw [Nat.pow_succ]
    omega
theorem cdN_c {g g' : Nat → Nat} : ∀ n, (∀ j, j < n → g j = g' j) → cdN g n = cdN g' n
  | 0, _ => rfl
  | n + 1, h => by
    show 32 * cdN g n + g n = 32 * cdN g' n + g' n
    rw [cdN_c n (fun j hj => h j (by omega)), h n (by omega)]
theorem cdN_i {g g' : Nat → Nat} (hg : ∀ j, g j < 32) (hg' : ∀ j, g' j < 32) : ∀ n, cdN g n = cdN g' n → ∀ j, j < n → g j = g' j
  | 0, _, j, hj => by omega
  | n + 1, h, j, hj => by
    have h1 : 32 * cdN g n + g n = 32 * cdN g' n + g' n := h
    have a := hg n
    have b := hg' n
    by_cases e : j = n
    · subst e; omega
    · exact cdN_i hg hg' n (by omega) j (by omega)
theorem cdN_d {g : Nat → Nat} (hg : ∀ j, g j < 32) : ∀ n i k, i + k + 1 = n → cdN g n / 32 ^ k % 32 = g i
  | 0, i, k, h => by omega
  | n + 1, i, k, h => by
    have a := hg n
    show (32 * cdN g n + g n) / 32 ^ k % 32 = g i
    cases k with
    | zero =>
      have : i = n := by omega
      subst this
      rw [Nat.pow_zero, Nat.div_one]
      omega
    | succ k =>
      rw [Nat.pow_succ, show 32 ^ k * 32 = 32 * 32 ^ k from Nat.mul_comm _ _, ← Nat.div_div_eq_div_mul, show (32 * cdN g n + g n) / 32 = cdN g n by omega]
      exact cdN_d hg n i k (by omega)
theorem cdN_l {g g' : Nat → Nat} (hg : ∀ j, g j < 32) (hg' : ∀ j, g' j < 32) : ∀ n, cdN g n < cdN g' n ↔ ∃ k, k < n ∧ (∀ j, j < k → g j = g' j) ∧ g k < g' k
  | 0 => by
    constructor
    · intro h; exact absurd h (Nat.lt_irrefl _)
    · rintro ⟨k, hk, -⟩; omega
  | n + 1 => by
    have a := hg n
    have b := hg' n
    have ih := cdN_l hg hg' n
    show 32 * cdN g n + g n < 32 * cdN g' n + g' n ↔ _
    constructor
    · intro h
      by_cases e : cdN g n = cdN g' n
      · exact ⟨n, by omega, cdN_i hg hg' n e, by omega⟩
      · obtain ⟨k, k1, k2, k3⟩ := ih.mp (by omega)
        exact ⟨k, by omega, k2, k3⟩
    · rintro ⟨k, k1, k2, k3⟩
      by_cases e : k = n
      · subst e
        rw [cdN_c k k2]; omega
      · have := ih.mpr ⟨k, by omega, k2, k3⟩
        omega
def nmG (sr : Nat → Int) (p e : Nat) : Nat → Nat := fun j => if p + j < e then (sr (p + j) - 96).toNat else 0
def nmN (sr : Nat → Int) (p e : Nat) : Nat := cdN (nmG sr p e) 7
def nmY (sr : Nat → Int) (p e : Nat) : Int64 := lN (nmN sr p e)
theorem nmG_b {sr : Nat → Int} {p e : Nat} (h : ∀ j, p ≤ j → j < e → isLt (sr j)) : ∀ j, nmG sr p e j < 32 := fun j => by
  unfold nmG
  split
  · have := h (p + j) (by omega) (by omega)
    unfold isLt at this; omega
  · decide
theorem nmN_b {sr : Nat → Int} {p e : Nat} (h : ∀ j, p ≤ j → j < e → isLt (sr j)) : nmN sr p e < 34359738368 := cdN_b (nmG_b h) 7
/-! what stands on the tape -/
section TP
variable {z : Int} {f : Nat → Int}
theorem hereC_f {a : Int} (h0 : 0 ≤ a) (hz : z ≤ 120) : hereC a z f = hereF f z a := by
  unfold hereC hereF
  by_cases c : a < z
  · rw [if_pos ⟨h0, c, by omega⟩, if_pos c]
  · rw [if_neg (by omega), if_neg c]
theorem hereC_l {p : Nat} (hz : z ≤ 120) : (97 ≤ hereC p z f ∧ hereC p z f ≤ 122) ↔ isLt (clip f z p) := by
  rw [hereC_f (by omega) hz, here_l (by omega)]
  exact Iff.rfl
theorem hereC_v {p : Nat} (hz : z ≤ 120) {c : Int} (h : clip f z p = c) (hc : ¬ c = 0) : hereC p z f = c := by
  rw [hereC_f (by omega) hz]
  unfold clip at h; unfold hereF
  split at h
  · rw [if_pos (by assumption)]; exact h
  · omega
end TP
end mg_9o
