set_option maxHeartbeats 4000000 in
set_option maxRecDepth 100000 in
theorem L_copies {G : mG} {l : Launch} (d : Nat) {b0 b1 : Nat} {f g : Nat → Int} (hne : b0 ≠ b1) : ∀ (n k : Nat) (h : mH), hGet h b0 = some (.inr (.inl (2928, fun q => J (f q)))) → hGet h b1 = some (.inr (.inl (2928, fun q => J (cpF f g k q)))) → h.1 ≤ b1 → k + n = 2928 → RUN G l d mX11_copies 2 [some (.ref b0), some (.ref b1), some (.int (J (k : Int)))] [] h (fun v h' => v = none ∧ hGet h' b1 = some (.inr (.inl (2928, fun q => J (cpF f g 2928 q)))) ∧ Same (fun b => b = b1) h h') := by
  intro n
  induction n with
  | zero =>
    intro k h hf hg hlo hk
    refine r_iload_n (pc := 2) dX11_copies_2 rfl ?_
    refine rj_sipush (pc := 3) dX11_copies_3 (by decide +kernel) ?_
    refine rj_icmp_ge (pc := 6) (tgt := 21) dX11_copies_6 (by decide) (by first | assumption | exact b01_r | exact bz_r | omega | (constructor <;> omega) | exact hM _ | exact hPo _ | exact hTa _ | exact hRo _) (by first | assumption | exact b01_r | exact bz_r | omega | (constructor <;> omega) | exact hM _ | exact hPo _ | exact hTa _ | exact hRo _) (fun c_6 => ?_) (fun c_6 => ?_)
    · refine r_return (pc := 21) dX11_copies_21 rfl ?_
      have e : k = 2928 := by omega
      subst e
      exact ⟨rfl, hg, Same.refl⟩
    · exfalso; omega
  | succ n ih =>
    intro k h hf hg hlo hk
    refine r_iload_n (pc := 2) dX11_copies_2 rfl ?_
    refine rj_sipush (pc := 3) dX11_copies_3 (by decide +kernel) ?_
    refine rj_icmp_ge (pc := 6) (tgt := 21) dX11_copies_6 (by decide) (by first | assumption | exact b01_r | exact bz_r | omega | (constructor <;> omega) | exact hM _ | exact hPo _ | exact hTa _ | exact hRo _) (by first | assumption | exact b01_r | exact bz_r | omega | (constructor <;> omega) | exact hM _ | exact hPo _ | exact hTa _ | exact hRo _) (fun c_6 => ?_) (fun c_6 => ?_)
    · refine r_return (pc := 21) dX11_copies_21 rfl ?_
      exfalso; omega
    · refine r_aload_n (pc := 9) dX11_copies_9 rfl (by first | rfl | exact isRefV_rf _) ?_
      refine r_iload_n (pc := 10) dX11_copies_10 rfl ?_
      refine r_aload_n (pc := 11) dX11_copies_11 rfl (by first | rfl | exact isRefV_rf _) ?_
      refine r_iload_n (pc := 12) dX11_copies_12 rfl ?_
      refine rj_iald (pc := 13) (j := k) dX11_copies_13 hf (by constructor <;> omega) (by omega) (by omega) (by omega) ?_
      refine rj_iast (pc := 14) dX11_copies_14 hg hlo (by constructor <;> omega) (by omega) (by omega) ?_
      rw [show ((k : Nat) : Int).toNat = k from rfl, cpF_s]
      refine rj_iinc (pc := 15) dX11_copies_15 (Nat.le_of_ble_eq_true rfl) rfl ?_
      dsimp only [lsSt, List.set, mLs, mEnt]
      refine r_goto (pc := 18) (tgt := 2) dX11_copies_18 (by decide) ?_
      have z := ih (k + 1) _ (hGet_put_ne hne hf) hGet_put_self hlo (by omega)
      exact z.mono (fun v h' g => ⟨g.1, g.2.1, ((Same.refl (P := fun b => b = b1)).put (rfl : b1 = b1)).trans g.2.2⟩)
