section mg_c3
section CT
variable {m m' pool pool' c c' : Nat → Int} {S S' : Nat → Option mO} {C C' : Nat → Nat → Int} {nm nm' : Nat → Int64} {g g' : Nat → Option Nat} {B : Int}
/-- another name -/
theorem ctr_rename (h : CTR m pool S c C nm g) (hT : TkM m pool 99) (hok : mOk m) {rc : Nat → Int} {t e : Nat} (ht : (t : Int) < m 1) (hn : 1 ≤ e ∧ e ≤ 7) (hl : ∀ j, j < e → isLt (rc j)) : CTR (namesM m rc t 0 e) pool S c C (updL nm t (nmY rc 0 e)) g := by
  have k0 := hok.2.1
  have k1 := hok.2.2.1
  have k2 := hok.2.2.2.1
  have k3 := hok.2.2.2.2.1
  have um : ∀ q, (q < 261 + 14 * t ∨ 272 + 14 * t ≤ q) → namesM m rc t 0 e q = m q := fun q hq => by
    rw [namesM_at, if_neg (by omega), updI_n (by omega)]
  have u2 : ∀ q, q = 262 + 14 * t ∨ q = 263 + 14 * t ∨ q = 264 + 14 * t → namesM m rc t 0 e q = m q := fun q hq => by
    rw [namesM_at, if_neg (by omega), updI_n (by omega)]
  have ln : namesM m rc t 0 e (261 + 14 * t) = e := by
    rw [namesM_at, if_neg (by omega), updI_s]; omega
  have nmv : ∀ j, j < e → namesM m rc t 0 e (265 + 14 * t + j) = rc j := fun j hj => by
    rw [namesM_at, if_pos ⟨by omega, by omega⟩]; congr 1; omega
  obtain ⟨⟨n, T, A, K, L, ⟨Z, e0⟩, ⟨F, f⟩, G, R⟩, hK⟩ := id h
  have fb := f.2.1
  have yC : CR (namesM m rc t 0 e) pool S c C (updL nm t (nmY rc 0 e)) g := by
    refine ⟨?_, fun u hu => ?_, ?_, ?_, ?_, ⟨Z, ?_⟩, ⟨F, ?_⟩, ?_, R⟩
    · unfold crN
      rw [um 0 (by omega), um 1 (by omega), um 2 (by omega), um 3 (by omega)]
      exact n
    · rw [um 1 (by omega)] at hu
      obtain ⟨t1, t2, t3, t4, t5⟩ := T u hu
      by_cases w : u = t
      · subst w
        rw [um (258 + 14 * u) (by omega), um (259 + 14 * u) (by omega), u2 (264 + 14 * u) (by omega)]
        refine ⟨t1, t2, t3, ?_, ?_⟩
        · unfold updL nmR nmY nmN
          rw [if_pos rfl, ln, show ((e : Int)).toNat = e by omega]
          have y : cdN (nmG rc 0 e) 7 = cdN (nmG (namesM m rc u 0 e) (265 + 14 * u) (265 + 14 * u + e)) 7 := cdN_c 7 (fun j hj => by
            unfold nmG
            by_cases z : j < e
            · rw [if_pos (by omega), if_pos (by omega), nmv j z, Nat.zero_add]
            · rw [if_neg (by omega), if_neg (by omega)])
          rw [y]
        · unfold nmOk
          rw [ln]
          exact ⟨⟨by omega, by omega⟩, fun j hj => by rw [nmv j (by omega)]; exact hl j (by omega)⟩
      · have q4 : ∀ q, 258 + 14 * u ≤ q → q < 272 + 14 * u → namesM m rc t 0 e q = m q := fun q a b => um q (by omega)
        rw [q4 _ (by omega) (by omega), q4 _ (by omega) (by omega), q4 _ (by omega) (by omega)]
        refine ⟨t1, t2, t3, ?_, nmOk_c (q4 _ (by omega) (by omega)) (fun j hj => q4 _ (by omega) (by omega)) t5⟩
        rw [show updL nm t (nmY rc 0 e) u = nm u by unfold updL; rw [if_neg w]]
        exact t4.trans (nmR_c (q4 _ (by omega) (by omega)) t5.1.2 (fun j hj => q4 _ (by omega) (by omega))).symm
    · exact crS_c A k0.2 (um 0 (by omega)) (fun q a b => um q (by omega)) (fun _ _ _ => rfl)
    · exact crK_c K (um 3 (by omega)) (fun q a b => um q (by omega)) (fun _ _ => rfl) k3.2
    · exact crL_c L k2.2 (um 2 (by omega)) (fun q a b => um q (by omega)) (fun q a b => um q (by omega)) rfl rfl
    · refine crE_c e0 k1.2 rfl (um 0 (by omega)) (um 1 (by omega)) (um 6 (by omega)) (fun u hu => ?_) (fun u hu hb => ?_)
      · by_cases w : u = t
        · subst w; rw [um (258 + 14 * u) (by omega), um (260 + 14 * u) (by omega)]; exact ⟨Iff.rfl, rfl⟩
        · rw [um (258 + 14 * u) (by omega), um (260 + 14 * u) (by omega)]; exact ⟨Iff.rfl, rfl⟩
      · rw [um (18 + 4 * u) (by omega), um (20 + 4 * u) (by omega)]; exact ⟨Iff.rfl, rfl⟩
    · exact crF_c f (by omega) rfl rfl rfl rfl (um 2 (by omega)) (um 4 (by omega)) (um 5 (by omega)) (fun q a b => um q (by omega)) rfl rfl rfl
    · refine crG_c G k1.2 (um 1 (by omega)) (fun u hu => ?_) (fun _ _ => rfl)
      by_cases w : u = t
      · subst w; exact ⟨u2 _ (by omega), u2 _ (by omega)⟩
      · exact ⟨um _ (by omega), um _ (by omega)⟩
  exact ctr_of h hT hok yC (fun _ _ => rfl) (fun _ _ _ => rfl) rfl (um 3 (by omega)) (um 7 (by omega)) (fun q a b _ => um q (by omega))
end CT
end mg_c3
