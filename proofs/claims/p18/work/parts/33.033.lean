section mg_37
end mg_37
section mg_38
/-! ===== constructors: rules that name the heap behind them ===== -/
section RG
variable {G : mG} {l : Launch} {d : Nat} {M : mM} {pc : Nat} {ls : List (Option Value)} {st : List Value} {h : mH} {Q : Option Value → mH → Prop}
/-- behind a step that touched the cell a alone -/
abbrev onlyAt (a : Nat) (h h1 : mH) : Prop := ∀ b, b ≠ a → hGet h1 b = hGet h b
theorem rg_newaI {n : Int} {z : Nat} (hdg : decode M.2.1 pc = .ok (.newarray .int, 2)) (hG : G.2.map Prod.snd = mTy) (hz : h.2.1 = z) (hn : 0 ≤ n) (hm : n < 100000)
    (K : ∀ h1, hGet h1 z = some (.inr (.inl (n.toNat, fun _ => J 0))) → onlyAt z h h1 → h1.1 = h.1 → h1.2.1 = z + 1 → h1.2.2.1 = h.2.2.1 + n.toNat → RUN G l d M (pc + 2) ls (.ref z :: st) h1 Q) : RUN G l d M pc ls (.int (J n) :: st) h Q := by
  subst hz
  exact rj_newaI hdg hG hn hm (K _ hGet_new_self (fun b hb => hGet_new_ne hb rfl) rfl rfl rfl)
theorem rg_gen {a : Nat} {o : mO} (K : ∀ h1, hGet h1 a = some o → onlyAt a h h1 → h1.1 = h.1 → h1.2.1 = h.2.1 → h1.2.2.1 = h.2.2.1 → RUN G l d M pc ls st h1 Q) : RUN G l d M pc ls st (hPut h a o) Q :=
  K _ hGet_put_self (fun b hb => hGet_put_ne hb rfl) rfl rfl rfl
end RG
end mg_38
