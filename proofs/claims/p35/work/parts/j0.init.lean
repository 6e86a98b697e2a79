/-! ===== how both begin ===== -/
def rmm0 : Nat → Int := updI (updI (updI (fun _ => 0) 0 1) 19 (-5)) 21 (-5)
def rd0 : Nat → Int := updI (updI (updI (updI (fun _ => 0) 0 (-1)) 1 (-1)) 2 (-1)) 3 (-1)
def rz0 : Nat → Int := fun _ => 0
theorem rz0_r (q : Nat) : InR (rz0 q) := by unfold rz0; decide
theorem rd0_e {q : Nat} (h : q < 4) : rd0 q = -1 := by
  match q, h with
  | 0, _ => rfl
  | 1, _ => rfl
  | 2, _ => rfl
  | 3, _ => rfl
  | k + 4, hk => omega
theorem rd0_n {q : Nat} (h : ¬ q < 4) : rd0 q = 0 := by
  unfold rd0; rw [updI_n (by omega), updI_n (by omega), updI_n (by omega), updI_n (by omega)]
theorem rmm0_0 {q : Nat} (h : ¬ q = 0) (h1 : ¬ q = 19) (h2 : ¬ q = 21) : rmm0 q = 0 := by
  unfold rmm0; rw [updI_n h2, updI_n h1, updI_n h]
theorem rmm0_r (q : Nat) : InR (rmm0 q) := inR_up (inR_up (inR_up rz0_r (by decide)) (by decide)) (by decide) q
theorem rm1 : rmm0 1 = 0 := rfl
theorem rm00 : rmm0 0 = 1 := rfl
theorem rm3 : rmm0 3 = 0 := rfl
theorem nod0 {e : Int} : ¬ nodP rmm0 e := by
  rintro (⟨t, -, h, -⟩ | ⟨a, -, h1, h2, -⟩)
  · rw [rm1] at h; omega
  · rw [rm00] at h2; omega
theorem wC0_8 : ∀ k, k < 8 → wC0 0 k = rmm0 (10 + k) := by decide
theorem CTR_0 : CTR rmm0 rz0 (fun _ => none) wc0 wC0 wn0 wg0 := by
  refine ⟨⟨⟨rfl, rfl, rfl, rfl, rfl⟩, fun t ht => ?_, fun a ha => ?_, fun q hq => ?_, ⟨wC0_8, fun k hk => ?_⟩, ⟨0, rfl, by decide, fun j hj => absurd hj (Nat.not_lt_zero _), fun j k _ hk => absurd hk (Nat.not_lt_zero _), fun e he => absurd he nod0, fun e he => absurd he nod0⟩, ⟨0, ⟨rfl, rfl, rfl⟩, by decide, by decide, rfl, fun j hj => absurd hj (Nat.not_lt_zero _), rfl, fun j hj => absurd hj (Nat.not_lt_zero _)⟩, fun t ht => ?_, wc0_r⟩, rfl, fun q hq => ?_⟩
  · rw [rm1] at ht; omega
  · rw [rm00] at ha
    obtain rfl : a = 0 := by omega
    decide
  · rw [rm3] at hq; omega
  · rw [show rmm0 2 = 0 from rfl] at hk; omega
  · rw [rm1] at ht; omega
  · rw [rm3] at hq; omega
theorem mOk_m0 : mOk rmm0 := ⟨rmm0_r, by decide, by decide, by decide, by decide, by decide, by decide, fun t ht => by rw [rm1] at ht; omega⟩
theorem mOk_z0 : mOk rz0 := ⟨rz0_r, by decide, by decide, by decide, by decide, by decide, by decide, fun t ht => by rw [show rz0 1 = 0 from rfl] at ht; omega⟩
theorem All_0 : All rmm0 rz0 (12000 * (1 : Nat)) (100 * (1 : Nat)) := by
  refine ⟨⟨⟨mOk_m0, by decide, fun t ht => ?_, ⟨rfl, by decide, by decide⟩, by decide, fun t k ht hk => ?_⟩, ⟨rfl, by decide, fun c hc => ?_⟩, fun t ht => ?_, fun c hc => ?_⟩, ⟨by decide, fun t ht => ?_⟩, by decide, by decide, GP.z⟩
  · rw [rm1] at ht; omega
  · rw [rmm0_0 (by omega) (by omega) (by omega)]; decide
  · rw [rm00] at hc
    obtain rfl : c = 0 := by omega
    exact ⟨by decide, fun h => by omega⟩
  · rw [rm1] at ht; omega
  · rw [rm00] at hc
    obtain rfl : c = 0 := by omega
    decide
  · rw [rm3] at ht; omega
theorem rd0_r : (∀ q, InR (rd0 q) ∧ rd0 q ≤ 40) ∧ ∀ q, InR (rz0 q) := by
  refine ⟨fun q => ?_, rz0_r⟩
  by_cases c : q < 4
  · rw [rd0_e c]; decide
  · rw [rd0_n c]; decide
theorem SO_0 : SO 1 0 rmm0 rz0 rz0 0 w0 0 rd0 rz0 := ⟨⟨All_0, fun q => by show (0 : Int) ≤ 0 ∧ (0 : Int) ≤ 127; decide⟩, ⟨Or.inl ⟨rfl, mOk_z0⟩, fun e => absurd e (by decide)⟩, ⟨by decide, fun q => by show (0 : Int) ≤ 0 ∧ (0 : Int) ≤ 127; decide, fun j hj => by omega⟩, by decide, rd0_r⟩
theorem paR_0 {sg : Bool} : paR sg 0 w0 0 rz0 := ⟨by decide, fun _ => ⟨rfl, fun q hq => rfl⟩⟩
theorem RI_0 {sg : Bool} {h : mH} {x y : Nat} (hF : isF h x) (hB : isM h y (mFs y 0 0 0 0 0 0 0 0 0 0 0 4) rmm0 rz0 rz0 rz0 rz0 rz0 rz0 rd0 rz0) (hxy : x + 196 ≤ y ∧ y + 10 ≤ h.2.1) (h1 : h.2.1 ≤ y + 10) (h2 : h.2.2.1 ≤ 100000) : RI sg x y 1 h :=
  ⟨0, rmm0, rz0, rz0, 0, w0, 0, rz0, rd0, rz0, ⟨fun _ => none, none, none, fun _ => -11, fun _ => w0, 0, 0, 0, 0, w0, 0, w0, wc0, wC0, wn0, wg0, hF, ⟨CTR_0, fun a o e => (by cases e), Or.inl ⟨rfl, rfl⟩, Or.inl rfl⟩, ⟨⟨fun q => (show InR (-11) ∧ (-11 : Int) ≤ 40 by decide), fun k q => w0_r q⟩, fun a ha => Or.inl ⟨rfl, rd0_e ha⟩⟩, paR_0, hxy⟩, ⟨0, 0, rz0, rz0, by decide, 0, 0, 0, 0, 0, 0, 4, by decide, hB⟩, SO_0, by omega, by omega⟩
theorem RI.gx {sg : Bool} {h : mH} {x y n : Nat} (k : RI sg x y n h) : ∃ kp tk, hGet h x = some (.inl (10, kFsF x kp tk)) := by
  obtain ⟨f4, m, kpm, pool, zt, ft, f18, pap, rwd, rw, ⟨S, kp, tk, zr, fr, p, e, o, zs, fs, b, fa, c, C, nm, g, hK, -⟩, -⟩ := k
  exact ⟨kp, tk, hK.gx⟩
theorem RI.sz {sg : Bool} {h : mH} {x y n : Nat} (k : RI sg x y n h) : SZ y n h := by
  obtain ⟨f4, m, kpm, pool, zt, ft, f18, pap, rwd, rw, -, -, -, k⟩ := k
  exact k
