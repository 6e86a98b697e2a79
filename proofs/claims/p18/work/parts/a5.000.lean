section mg_a5
/-! ===== shuttings: the class's rounds beside the reference's shuts ===== -/
def psi (k : Nat) (m : Nat → Int) : Int := phi k m + 100 * (90 - m 2) + 300 * cnt (openB m) (m 0).toNat
def KPk (c c' : Nat → Int) (g g' : Nat → Option Nat) : Prop := (∀ j, 180 ≤ j → g' j = g j) ∧ (∀ q, 488 ≤ q → (∀ t : Nat, q ≠ 496 + 9 * t) → c' q = c q) ∧ c' 3 = c 3 ∧ c' 4 = c 4
theorem KPk.rf {c : Nat → Int} {g : Nat → Option Nat} : KPk c c g g := ⟨fun _ _ => rfl, fun _ _ _ => rfl, rfl, rfl⟩
theorem KPk.tr {c c' c'' : Nat → Int} {g g' g'' : Nat → Option Nat} (h : KPk c c' g g') (k : KPk c' c'' g' g'') : KPk c c'' g g'' := ⟨fun j a => (k.1 j a).trans (h.1 j a), fun q a d => (k.2.1 q a d).trans (h.2.1 q a d), k.2.2.1.trans h.2.2.1, k.2.2.2.trans h.2.2.2⟩
def SIMS (G : mG) (l : Launch) (r : Nat) (b : Int) (pool : Nat → Int) (S : Nat → Option mO) (h0 : mH) (m : Nat → Int) (s : Int) (m' : Nat → Int) : Prop :=
  ∀ a : Nat, s = (a : Int) → (a : Int) < m 0 → m (18 + 4 * a) = 0 → ∀ (k z : Nat) (f c : Nat → Int) (C : Nat → Nat → Int) (nm : Nat → Int64) (g : Nat → Option Nat) (h : mH), isR h r b ((z : Int) + 1) f c C nm g → f z = 100 + (a : Int) → Same (rBlk r) h0 h → CR (updI m (18 + 4 * a) 1) pool S c C nm g → z ≤ a + 1 → psi k m ≤ 900300 →
  GOES G l r k h (fun k' h' => ∃ f' c' C' nm' g', isR h' r b z f' c' C' nm' g' ∧ Same (rBlk r) h0 h' ∧ CR m' pool S c' C' nm' g' ∧ (∀ j, j < z → f' j = f j) ∧ KPk c c' g g' ∧ psi k' m' ≤ psi k m + (if a = 0 then 10 else -200))
def clT (G : mG) (l : Launch) (r : Nat) (b : Int) (pool : Nat → Int) (S : Nat → Option mO) (h0 : mH) (m : Nat → Int) (t : Nat) (m' : Nat → Int) : Prop := clS G l r b pool S h0 91 m t m' ∧ (∃ B, Inv m' pool B) ∧ m 2 < m' 2
def shS (G : mG) (l : Launch) (r : Nat) (b : Int) (pool : Nat → Int) (S : Nat → Option mO) (h0 : mH) (n : Nat) (m : Nat → Int) (s : Int) (m' : Nat → Int) : Prop := shutsR pool b n m s m' ∧ SIMS G l r b pool S h0 m s m' ∧ (∃ B, Inv m' pool B) ∧ ScI m' ∧ Es m m'
theorem simT_all {G : mG} {l : Launch} {r : Nat} {b : Int} {pool : Nat → Int} {S : Nat → Option mO} {h0 : mH} (hS : ∀ a o, S a = some o → hGet h0 a = some o) (hSr : ∀ a, ¬ S a = none → ¬ rBlk r a) (hb : -1 ≤ b ∧ b ≤ 9) (hPo : poolOk pool) : CXG (clT G l r b pool S h0) pool 91 := fun m t B h hB hn ht h0t => by
  obtain ⟨m', a, a2, a3, a4, a5⟩ := simC_all (G := G) (l := l) hS hSr hb hPo 91 m t B h hB hn ht h0t
  exact ⟨m', ⟨a, ⟨B, a2⟩, a4⟩, a2, a3, a4, a5⟩
section SH
variable {G : mG} {l : Launch} {r : Nat} {b : Int} {pool : Nat → Int} {S : Nat → Option mO} {h0 : mH} {n : Nat}
theorem stamp_nn {m : Nat → Int} {B : Int} (hI : Inv m pool B) (hsc : ScI m) : ∀ e, nodP m e → 0 ≤ stampI m e := fun e he => by
  have k1 := hI.1.2.2.1
  rcases he with ⟨t, rfl, x, -⟩ | ⟨a, rfl, x, y, -⟩
  · rw [stampI_t (by omega)]; exact (hI.2.2.1 t x).2.2.1.2.1
  · rw [stampI_s]; exact ((hsc.2.2 a y).2 x).2.1.1
/-- what the loop of a shutting leaves -/
theorem shl_inv {a : Nat} : ∀ (kf : Nat) (m m2 : Nat → Int) (B : Int), Inv m pool B → ScI m → (a : Int) < m 0 → m (18 + 4 * a) = 1 → shLoopR (clT G l r b pool S h0) (shS G l r b pool S h0 n) a kf m m2 → lastI m2 a < 0 ∧ (∃ B, Inv m2 pool B) ∧ ScI m2 ∧ m2 0 = m 0 ∧ m2 (18 + 4 * a) = 1
  | 0, m, m2, B, hI, hsc, ha, ha1, hL => by
    obtain ⟨-, -, x1, rfl⟩ := hL
    exact ⟨x1, ⟨B, hI⟩, hsc, rfl, ha1⟩
  | kf + 1, m, m2, B, hI, hsc, ha, ha1, hL => by
    have k0 := hI.1.2.1
    obtain ⟨-, -, ⟨x1, rfl⟩ | ⟨-, m1, ⟨⟨-, -, ev⟩, ⟨B1, hI1⟩, -⟩, x3⟩ | ⟨-, m1, ⟨-, -, ⟨B1, hI1⟩, sci1, es⟩, x3⟩⟩ := hL
    · exact ⟨x1, ⟨B, hI⟩, hsc, rfl, ha1⟩
    · have eA : m1 0 = m 0 := ev.1 0 (Or.inl rfl)
      have y := shl_inv kf m1 m2 B1 hI1 (ev.sc hsc k0.2) (by rw [eA]; exact ha) (by rw [ev.1 _ (by unfold far; omega)]; exact ha1) x3
      rw [eA] at y; exact y
    · have eA : m1 0 = m 0 := es.1 0 (Or.inl rfl)
      have st1 : m1 (18 + 4 * a) = 1 := by
        rcases es.2.1 a (by omega) with w | w
        · rw [w]; exact ha1
        · rw [ha1] at w; exact absurd w.1 (by decide)
      have y := shl_inv kf m1 m2 B1 hI1 sci1 (by rw [eA]; exact ha) st1 x3
      rw [eA] at y; exact y
end SH
end mg_a5
