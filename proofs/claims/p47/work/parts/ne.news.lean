/-! ===== new objects leave a keeper as it is ===== -/
section NE
variable {x y n0 k s : Nat} {h h' : mH} {f4 : Int} {m kpm pool : Nat → Int} {zt : Int} {ft : Nat → Int}
theorem RO.news (hI : RO x y n0 f4 m kpm pool zt ft h) (o : NEWS k s h h') : RO x y n0 f4 m kpm pool zt ft h' := by
  obtain ⟨f18, pap, rwd, rw, hCH, hSO⟩ := hI
  exact ⟨f18, pap, rwd, rw, hCH.kp ⟨o.1.1, o.1.2.1, fun b hb _ => o.1.2.2 b hb (fun z => z)⟩, hSO⟩
theorem RO.hi (hI : RO x y n0 f4 m kpm pool zt ft h) : x + 196 ≤ y ∧ y ≤ h.2.1 := by
  obtain ⟨f18, pap, rwd, rw, ⟨S, kp, tk, zr, fr, p, e, o, zs, fs, b, fa, c, C, nm, g, hK, -, -, -, hxy⟩, -⟩ := hI
  exact hxy
theorem NEWS.fr (hI : RO x y n0 f4 m kpm pool zt ft h) (o : NEWS k s h h') : (h'.1 = h.1 ∧ ∀ b, b < x → hGet h' b = hGet h b) ∧ h'.2.1 ≤ h.2.1 + k ∧ h'.2.2.1 ≤ h.2.2.1 + s := by
  have z := hI.hi
  exact ⟨⟨o.1.1, fun b hb => o.1.2.2 b (by omega) (fun z => z)⟩, o.2.1, o.2.2.2⟩
theorem RO.lo (hI : RO x y n0 f4 m kpm pool zt ft h) : h.1 ≤ h.2.1 := by
  have z := hI.hi
  obtain ⟨f18, pap, rwd, rw, ⟨S, kp, tk, zr, fr, p, e, o, zs, fs, b, fa, c, C, nm, g, hK, -⟩, -⟩ := hI
  have := hK.lo
  omega
/-- bytes that may be typed -/
def tyB (t : List Int) : Prop := ∀ c ∈ t, 1 ≤ c ∧ c ≤ 127
theorem tyB.app {t u : List Int} (a : tyB t) (b : tyB u) : tyB (t ++ u) := fun c hc => by
  rcases List.mem_append.mp hc with q | q
  · exact a c q
  · exact b c q
theorem tyB.cons {c : Int} {t : List Int} (a : 1 ≤ c ∧ c ≤ 127) (b : tyB t) : tyB (c :: t) := fun d hd => by
  rcases List.mem_cons.mp hd with q | q
  · rw [q]; exact a
  · exact b d q
theorem tyB.nil : tyB [] := fun c hc => absurd hc (by simp)
theorem tyB.nm {k : Int} (h : 0 ≤ k ∧ k ≤ 15) : tyB (nm k) := .cons (by omega) (.cons (by omega) .nil)
theorem tyB.dg {i : Int} (h : 0 ≤ i ∧ i < 100) : tyB (dg i) := by
  show tyB (if i < 10 then [48 + i] else [48 + i / 10, 48 + i % 10])
  split
  · exact .cons (by omega) .nil
  · exact .cons (by omega) (.cons (by omega) .nil)
theorem tyB.tx {t : List Int} (h : TX t) : tyB t := by
  rcases h with rfl | ⟨i, hi, rfl⟩ | ⟨k, hk, rfl⟩ | ⟨k, j, hk, hj, rfl⟩ | ⟨k, hk, rfl⟩ | rfl | ⟨j, hj, rfl⟩ | rfl
  · intro c hc; revert c; decide
  · exact tyB.app (.cons (by omega) .nil) (.dg (by omega))
  · exact tyB.app (.cons (by omega) .nil) (.nm hk)
  · exact tyB.app (tyB.app (tyB.app (.cons (by omega) .nil) (.nm hk)) (.cons (by omega) .nil)) (.dg (by omega))
  · exact tyB.app (tyB.app (.cons (by omega) .nil) (.nm hk)) (.cons (by omega) (.cons (by omega) (.cons (by omega) (.cons (by omega) (.cons (by omega) (.cons (by omega) .nil))))))
  · intro c hc; revert c; decide
  · exact tyB.app (.cons (by omega) .nil) (.dg (by omega))
  · intro c hc; revert c; decide
end NE
