section mg_52
end mg_52
section mg_53
/-! ===== the class's constructors ===== -/
section RG
variable {G : mG} {l : Launch} {d : Nat} {M : mM} {pc : Nat} {ls : List (Option Value)} {st : List Value} {h : mH} {Q : Option Value → mH → Prop}
theorem rg_newC {index ci N z : Nat} {fs : List Value} (hdg : decode M.2.1 pc = .ok (.new index, 3)) (hc : mNewC M.1.cls index ci N fs) (hz : h.2.1 = z)
    (K : ∀ h1, hGet h1 z = some (.inl (ci, fs)) → onlyAt z h h1 → h1.1 = h.1 → h1.2.1 = z + 1 → h1.2.2.1 = h.2.2.1 + N → RUN G l d M (pc + 3) ls (.ref z :: st) h1 Q) : RUN G l d M pc ls st h Q := by
  subst hz
  exact r_newC hdg hc (K _ hGet_new_self (fun b hb => hGet_new_ne hb rfl) rfl rfl rfl)
theorem rg_newaR {n : Int} {index t z : Nat} {C : String} (hdg : decode M.2.1 pc = .ok (.anewarray index, 3)) (hG : G.2.map Prod.snd = mTy) (hty : mTy[t]? = some (.object C)) (hw1 : Cond.classLink M.1.cls index C ∈ lw_use) (hw2 : Cond.arrayOver (.object C) ∈ lw_use) (hz : h.2.1 = z) (hn : 0 ≤ n) (hm : n < 100000)
    (K : ∀ h1, hGet h1 z = some (.inr (.inr (t, n.toNat, fun _ => none))) → onlyAt z h h1 → h1.1 = h.1 → h1.2.1 = z + 1 → h1.2.2.1 = h.2.2.1 + n.toNat → RUN G l d M (pc + 3) ls (.ref z :: st) h1 Q) : RUN G l d M pc ls (.int (J n) :: st) h Q := by
  subst hz
  exact r_newaR hdg hG hty hw1 hw2 (by rw [J_0, J_lt ⟨by omega, by omega⟩ ⟨by decide, by decide⟩]; omega) (J_cl hn ⟨by omega, by omega⟩) (by omega) (K _ hGet_new_self (fun b hb => hGet_new_ne hb rfl) rfl rfl rfl)
theorem rg_aast {a t n ci v : Nat} {f : Nat → Option Nat} {i : Int} {r : vw_C} {vs : List Value} (hdg : decode M.2.1 pc = .ok (.aastore, 1)) (ho : hGet h a = some (.inr (.inr (t, n, f)))) (hov : hGet h v = some (.inl (ci, vs))) (hc : vwCl[ci]? = some r) (hG : G.2.map Prod.snd = mTy) (hty : mTy[t]? = some (.object r.1)) (hlo : h.1 ≤ a) (hr : InR i) (h0 : 0 ≤ i) (h1 : i < n)
    (K : ∀ h1, hGet h1 a = some (.inr (.inr (t, n, va_up f i.toNat (some v)))) → onlyAt a h h1 → h1.1 = h.1 → h1.2.1 = h.2.1 → h1.2.2.1 = h.2.2.1 → RUN G l d M (pc + 1) ls st h1 Q) : RUN G l d M pc ls (.ref v :: .int (J i) :: .ref a :: st) h Q :=
  r_aast hdg ho hov hc hG hty hlo (J_in hr h0 h1) (by rw [J_cl h0 hr]; exact rg_gen K)
end RG
def Grow (a : Nat) (h h' : mH) : Prop := ∀ b, b < a → hGet h' b = hGet h b
theorem fill_s (a i : Nat) : va_up (fun q => if q < i then some (a + q) else none) i (some (a + i)) = fun q => if q < i + 1 then some (a + q) else none := by
  funext q
  show (if q = i then some (a + i) else if q < i then some (a + q) else none) = if q < i + 1 then some (a + q) else none
  repeat' split
  all_goals first | rfl | (exfalso; omega) | (subst_vars; rfl)
theorem fill_0 (a : Nat) : (fun _ => none : Nat → Option Nat) = fun q => if q < 0 then some (a + q) else none := by
  funext q
  simp
theorem ad_ne {a i j : Nat} (h : i ≠ j) : a + i ≠ a + j := by omega
theorem ad_lt {a i j : Nat} (h : i < j) : a + i < a + j := by omega
theorem b_ne {a b j : Nat} (h : b < a) : b ≠ a + j := by omega
theorem b_lt {a b j : Nat} (h : b < a) : b < a + j := by omega
theorem ad_ne0 {a i : Nat} (h : 0 < i) : a + i ≠ a := by omega
theorem ad_0ne {a j : Nat} (h : 0 < j) : a ≠ a + j := by omega
theorem ad_0lt {a j : Nat} (h : 0 < j) : a < a + j := by omega
theorem sl_add {A B C x y : Nat} (h1 : A = B + x) (h2 : B = C + y) : A = C + (y + x) := by omega
theorem sl_0 {A : Nat} : A = A + 0 := rfl
end mg_53
