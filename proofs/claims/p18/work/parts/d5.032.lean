section mg_f0
end mg_f0
section mg_f1
/-! ===== the class: copy, lay, judge, on any keeper ===== -/
def cpK (f g : Nat → Int) (sp dp n : Nat) : Nat → Int := fun q => if dp ≤ q ∧ q < dp + n then f (sp + (q - dp)) else g q
theorem rj_acopy {G : mG} {l : Launch} {d : Nat} {M : mM} {pc : Nat} {ls : List (Option Value)} {st : List Value} {h : mH} {Q : Option Value → mH → Prop} {index a0 a n0 n1 : Nat} {f g : Nat → Int} {sp dp n : Int} (hdg : decode M.2.1 pc = .ok (.invokestatic index, 3)) (hw : Cond.methodLink M.1.cls index arraycopyName ∈ lw_use) (ho0 : hGet h a0 = some (.inr (.inl (n0, fun q => J (f q))))) (ho1 : hGet h a = some (.inr (.inl (n1, fun q => J (g q))))) (hlo0 : h.1 ≤ a0) (hlo : h.1 ≤ a) (r1 : InR sp) (r2 : InR dp) (r3 : InR n)
    (h1 : 0 ≤ sp) (h2 : 0 ≤ dp) (h3 : 0 ≤ n) (h4 : sp + n ≤ n0) (h5 : dp + n ≤ n1) (hW : (st.map fun v => v.category).sum ≤ 8)
    (K : RUN G l (d + 1) M (pc + 3) ls st (hPut h a (.inr (.inl (n1, fun q => J (cpK f g sp.toNat dp.toNat n.toNat q))))) Q) : RUN G l (d + 1) M pc ls (.int (J n) :: .int (J dp) :: .ref a :: .int (J sp) :: .ref a0 :: st) h Q := by
  have nn : ∀ z : Int, InR z → 0 ≤ z → ¬ J z < 0 := by
    intro z hz h0 q
    rw [J_0, J_lt hz (by decide)] at q
    omega
  have c1 := J_cl h1 r1
  have c2 := J_cl h2 r2
  have c3 := J_cl h3 r3
  refine r_acopy hdg hw ho0 ho1 hlo0 hlo (nn _ r1 h1) (nn _ r2 h2) (nn _ r3 h3) (by rw [c1, c3]; omega) (by rw [c2, c3]; omega) hW ?_
  rw [c1, c2, c3]
  have e : va_cpy (fun q => J (f q)) (fun q => J (g q)) sp.toNat dp.toNat n.toNat = fun q => J (cpK f g sp.toNat dp.toNat n.toNat q) := by
    funext q
    unfold va_cpy cpK
    split <;> rfl
  rw [e]
  exact K
theorem updC_2 {C : Nat → Nat → Int} {k : Nat} {f g : Nat → Int} : updC (updC C k f) k g = updC C k g := by
  funext q
  unfold updC
  split <;> rfl
end mg_f1
