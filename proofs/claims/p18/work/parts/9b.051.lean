section mg_9o
section TP
variable {z : Int} {f : Nat → Int}
/-- a name that is read -/
theorem rnL_v (hz : z ≤ 120) {p e : Nat} (hn : namS (clip f z) p e) : ∀ n i : Nat, i + n = 7 → rnL z f n (if p + i < e then ((p + i : Nat) : Int) else (e : Int)) (lN (cdN (nmG (clip f z) p e) i)) = (nmY (clip f z) p e, (e : Int))
  | 0, i, h => by
    have : i = 7 := by omega
    subst this
    have h2 := hn.2.1
    rw [if_neg (by omega)]
    rfl
  | n + 1, i, h => by
    have ih := rnL_v hz hn n (i + 1) (by omega)
    by_cases c : p + i < e
    · have hl := hn.2.2.1 (p + i) (by omega) c
      have hl2 := hl
      unfold isLt at hl2
      have hv := hereC_v hz (rfl : clip f z (p + i) = _) (by omega)
      have hg : nmG (clip f z) p e i = (clip f z (p + i) - 96).toNat := by unfold nmG; rw [if_pos c]
      rw [if_pos c]
      unfold rnL
      rw [if_pos ((hereC_l hz).mpr hl), lsh5, hv, lad _ _ (by omega) (by omega)]
      have e1 : cdN (nmG (clip f z) p e) i * 32 + (clip f z (p + i) - 97 + 1).toNat = cdN (nmG (clip f z) p e) (i + 1) := by
        show _ = 32 * cdN (nmG (clip f z) p e) i + nmG (clip f z) p e i
        rw [hg]; omega
      rw [e1]
      by_cases c2 : p + (i + 1) < e
      · rw [if_pos c2] at ih
        rw [show ((p + i : Nat) : Int) + 1 = ((p + (i + 1) : Nat) : Int) by omega]
        exact ih
      · rw [if_neg c2] at ih
        rw [show ((p + i : Nat) : Int) + 1 = (e : Int) by omega]
        exact ih
    · have hne : ¬ isLt (clip f z e) := by
        rcases hn.2.2.2 with g | g
        · omega
        · exact g
      have hg : nmG (clip f z) p e i = 0 := by unfold nmG; rw [if_neg c]
      rw [if_neg c]
      unfold rnL
      rw [if_neg (fun g => hne ((hereC_l hz).mp g)), lsh5]
      have e1 : cdN (nmG (clip f z) p e) i * 32 = cdN (nmG (clip f z) p e) (i + 1) := by
        show _ = 32 * cdN (nmG (clip f z) p e) i + nmG (clip f z) p e i
        rw [hg]; omega
      rw [e1]
      rw [if_neg (show ¬ p + (i + 1) < e by omega)] at ih
      exact ih
end TP
end mg_9o
